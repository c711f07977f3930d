abbrev zhd (s : Nat) : Prop := 8 ≤ s ∧ s < 20
def zW1 (S W : Nat → Nat) (n rn gs : Nat) : Nat → Nat := fun u => if u < n ∧ zhd (S u) then zwo (W u) rn gs else W u
def zT1 (H : Nat → Option Nat) (T : Nat → Nat) (rn : Nat) : Nat → Nat := fun k => if H k ≠ none ∧ 2 ≤ rn then T k + 1 else T k
def zbr (W : Nat → Nat) (rn gs u : Nat) : Nat := zid (W u < 32 ∧ 32 ≤ zwo (W u) rn gs)
def zbrH (W : Nat → Nat) (rn gs : Nat) : Option Nat → Nat
  | none => 0
  | some u => zbr W rn gs u
def zw (S W : Nat → Nat) (s n : Nat) : Nat := zsm (fun u => zid (S u = s ∧ W u < 32)) n
section hr
variable {n : Nat} {S W : Nat → Nat} {H : Nat → Option Nat} {T C P O : Nat → Nat} {h r : Nat} {sp we le ta : Nat → Int32} {num : Int32} {rooms pu sh ho pa : Nat → Int32} {hours house spent loans surges rate : Int32} {q w : Nat → Int32}
theorem zSumH (aP : zRP n S W H T C P O h pu sh ho pa q) (f : Nat → Nat) : zsm (fun u => if zhd (S u) then f u else 0) n = zsm (fun k => match H k with | none => 0 | some u => f u) 12 := by
  have h1 : zsm (fun u => if zhd (S u) then f u else 0) n = zsm (fun u => zsm (fun k => if S u = 8 + k then f u else 0) 12) n := zsm_congr (fun u hu => by
    by_cases e : zhd (S u)
    · have e1 := e.1; have e2 := e.2
      rw [if_pos e, zsm_one (k := S u - 8) (by omega) (fun i hi hne => by rw [if_neg (by omega)]), if_pos (by omega)]
    · rw [if_neg e, zsm_none (fun i hi => by rw [if_neg (fun x => e ⟨by omega, by omega⟩)])])
  rw [h1, zsm_swap]
  refine zsm_congr (fun k hk => ?_)
  have hb := aP.1 k hk
  cases hH : H k with
  | none =>
    exact zsm_none (fun u hu => by
      rw [if_neg]; intro e
      have := (hb u).2 ⟨hu, e⟩; rw [hH] at this; cases this)
  | some v =>
    have hv := (hb v).1 hH
    rw [zsm_one (k := v) hv.1 (fun u hu hne => by
      rw [if_neg]; intro e
      have := (hb u).2 ⟨hu, e⟩; rw [hH] at this; cases this; exact hne rfl), if_pos hv.2]
theorem zCnt (aC : zRC n S W sp we ta num) (aP : zRP n S W H T C P O h pu sh ho pa q) {Z : Nat} (hZ : 100 < Z) : f_X0_countShower Z ta sh = some (fun j => if j < 12 ∧ H j ≠ none then sh j + 1 else sh j) := by
  unfold f_X0_countShower
  have h1 := zloop0 (fun F (x : Nat → Int32) i => f_X0_countShower_L2 ta F i x) (fun i => fun j => if j < i ∧ H j ≠ none then sh j + 1 else sh j) 12 _ (F := Z) (by omega) (fun F => by
    show f_X0_countShower_L2 ta (F + 1) _ _ = _
    rw [f_X0_countShower_L2, if_neg (by decide)]) (fun F i hi => by
    show f_X0_countShower_L2 ta (F + 1) _ _ = f_X0_countShower_L2 ta F _ _
    have e := zHas aC aP hi
    rw [f_X0_countShower_L2, e, if_pos (show nI i < 12 from nI_lt (b := 12) hi (by decide)), zpl1, zaddc (by omega) (by omega), nI_1]
    congr 1
    cases hH : H i with
    | none =>
      simp only [if_true]
      funext j
      by_cases hj : j = i
      · subst hj; simp [hH]
      · have : (j < i + 1) = (j < i) := propext (by omega)
        simp only [this]
    | some u =>
      simp only [reduceCtorEq, if_false, z10]
      funext j
      by_cases hj : j = i
      · subst hj
        rw [zus rfl]; simp [hH]
      · rw [zun hj]
        have : (j < i + 1) = (j < i) := propext (by omega)
        simp only [this])
  have h2 : f_X0_countShower_L2 ta Z 0 sh = some (fun j => if j < 12 ∧ H j ≠ none then sh j + 1 else sh j) := by
    have : (fun j => if j < 0 ∧ H j ≠ none then sh j + 1 else sh j) = sh := by funext j; simp
    rw [← h1]; show _ = f_X0_countShower_L2 ta Z 0 _; rw [this]
  rw [h2]; rfl
theorem zWdn (aC : zRC n S W sp we ta num) {Z rn gs : Nat} (hZ : 100 < Z) (hr : rn ≤ 9) (hg : gs ≤ 3) : f_X0_wearDown Z sp we num (nI rn) (nI gs) = some (nI (zsm (fun u => if zhd (S u) then zbr W rn gs u else 0) n), fun v => if v < n ∧ zhd (S v) then nI (zwo (W v) rn gs) else we v) := by
  unfold f_X0_wearDown
  obtain ⟨h0, rfl, h2, h3, h4, h5, h6, h7⟩ := aC
  have h1 := zloop0 (fun F (x : Int32 × (Nat → Int32)) i => f_X0_wearDown_L5 sp (nI n) (nI rn) (nI gs) F x.1 i x.2) (fun i => (nI (zsm (fun u => if zhd (S u) then zbr W rn gs u else 0) i), fun v => if v < i ∧ zhd (S v) then nI (zwo (W v) rn gs) else we v)) n (nI (zsm (fun u => if zhd (S u) then zbr W rn gs u else 0) n), fun v => if v < n ∧ zhd (S v) then nI (zwo (W v) rn gs) else we v) (F := Z) (by omega) (fun F => by
    show f_X0_wearDown_L5 sp (nI n) (nI rn) (nI gs) (F + 1) _ _ _ = _
    rw [f_X0_wearDown_L5]
    simp (disch := omega) only [zpl1, zpl2, zpl3, zob1, zob2, zob3, zlt, zeq, znn, zn9, zat, zput, zaddc, zag, zas, zl2, zl3, zl4, zl5, zl7, zl8, zl10, zl11, zl12, zl16, zl20, zl22, zl23, zl31, zl32, zl60, zl64, zl80, zl100, zl121, zl181, zl241, zl249, zl261, zl273, zl285, zl297, zl309, zl321, zl322, zl323, zl324, zl325, zl326, zl327, zl500, zl61, zl328, zl329, zl657, zl986, nI_1, z1I, zadd, if_true, if_false, Nat.lt_irrefl]) (fun F i hi => by
    show f_X0_wearDown_L5 sp (nI n) (nI rn) (nI gs) (F + 1) _ _ _ = f_X0_wearDown_L5 sp (nI n) (nI rn) (nI gs) F _ _ _
    have hS := h2 i hi; have hW := h3 i
    have hwo := zwo_le (W i) rn gs
    have hki : (nI (zpl (S i)) = 1) = zhd (S i) := by
      have := zpl_le (S i)
      rw [show (1 : Int32) = nI 1 from rfl, zeq (by omega) (by omega)]
      apply propext; unfold zpl zhd; constructor
      · intro hh; split at hh <;> (try split at hh) <;> (try split at hh) <;> (try split at hh) <;> omega
      · intro hh; rw [if_neg (by omega), if_pos (by omega)]
    rw [f_X0_wearDown_L5]
    have hwi : (if i < i ∧ zhd (S i) then nI (zwo (W i) rn gs) else we i) = nI (W i) := by
      rw [if_neg (fun x => Nat.lt_irrefl _ x.1)]; exact h6 i (by omega)
    simp (disch := omega) only [zpl1, zpl2, zpl3, zob1, zob2, zob3, zlt, zeq, znn, zn9, zat, zput, zaddc, zag, zas, zl2, zl3, zl4, zl5, zl7, zl8, zl10, zl11, zl12, zl16, zl20, zl22, zl23, zl31, zl32, zl60, zl64, zl80, zl100, zl121, zl181, zl241, zl249, zl261, zl273, zl285, zl297, zl309, zl321, zl322, zl323, zl324, zl325, zl326, zl327, zl500, zl61, zl328, zl329, zl657, zl986, nI_1, z1I, zadd, if_true, if_false, hi, h5, zkind, hki, hwi, zWorn hW hr hg]
    simp only [zsm]
    by_cases hc : zhd (S i)
    · have hup : upd (fun v => if v < i ∧ zhd (S v) then nI (zwo (W v) rn gs) else we v) i (nI (zwo (W i) rn gs)) = fun v => if v < i + 1 ∧ zhd (S v) then nI (zwo (W v) rn gs) else we v := by
        funext j
        by_cases hj : j = i
        · subst hj; rw [zus rfl, if_pos ⟨by omega, hc⟩]
        · rw [zun hj]
          have : (j < i + 1) = (j < i) := propext (by omega)
          simp only [this]
      simp only [if_pos hc, hup]
      unfold zbr zid
      by_cases h1 : W i < 32
      · by_cases h2 : zwo (W i) rn gs < 32
        · simp [h1, h2, Nat.not_le.mpr h2, zpl2]
        · simp [h1, h2, Nat.not_lt.mp h2, zpl2, nI_1]
      · simp [h1, zpl2]
    · have hup : (fun v => if v < i ∧ zhd (S v) then nI (zwo (W v) rn gs) else we v) = fun v => if v < i + 1 ∧ zhd (S v) then nI (zwo (W v) rn gs) else we v := by
        funext j
        by_cases hj : j = i
        · subst hj; rw [if_neg (fun x => hc x.2), if_neg (fun x => hc x.2)]
        · have : (j < i + 1) = (j < i) := propext (by omega)
          simp only [this]
      simp only [hc, if_false]
      rw [← hup]
      simp [zpl2])
  have h2' : f_X0_wearDown_L5 sp (nI n) (nI rn) (nI gs) Z 0 0 we = some (nI (zsm (fun u => if zhd (S u) then zbr W rn gs u else 0) n), fun v => if v < n ∧ zhd (S v) then nI (zwo (W v) rn gs) else we v) := by
    have : (fun v => if v < 0 ∧ zhd (S v) then nI (zwo (W v) rn gs) else we v) = we := by funext j; simp
    rw [← h1]; show _ = f_X0_wearDown_L5 sp (nI n) (nI rn) (nI gs) Z 0 0 _; rw [this]
  rw [h2']; rfl
def zPP (n : Nat) (S W : Nat → Nat) (H : Nat → Option Nat) (T : Nat → Nat) (rn gs : Nat) (q : Nat → Int32) (i : Nat) (w : Nat → Int32) : Prop :=
  (∀ u, u < n → w (121 + u) = nI (if 8 ≤ S u ∧ S u < 8 + i then zwo (W u) rn gs else W u)) ∧ (∀ k, k < 12 → w (273 + k) = nI (if k < i then zT1 H T rn k else T k)) ∧ (∀ k, k < 12 → w (285 + k) = nI (if k < i then zbk (zW1 S W n rn gs) (H k) else zbk W (H k))) ∧ (∀ j, j < 121 ∨ (181 ≤ j ∧ j < 273) ∨ 297 ≤ j → w j = q j)
theorem zPsL (hn : n ≤ 60) (hW : ∀ u, W u ≤ 64) (hH : ∀ k, k < 12 → ∀ u, H k = some u ↔ (u < n ∧ S u = 8 + k)) (hq : ∀ k, k < 12 → q (261 + k) = zev (-1) (H k)) (hT : ∀ k, k < 12 → T k ≤ 600) {rn gs : Nat} (hr : rn ≤ 9) (hg : gs ≤ 3) : ∀ k i F w, 12 - i = k → i ≤ 12 → 12 - i < F → zPP n S W H T rn gs q i w → ∃ w', f_X7_passes_L17 (nI rn) (nI gs) F (nI (zsm (fun k => zbrH W rn gs (H k)) i)) (nI i) w = some (nI (zsm (fun k => zbrH W rn gs (H k)) 12), w') ∧ zPP n S W H T rn gs q 12 w' := by
  intro k
  induction k with
  | zero =>
    intro i F w hk hi hF a
    obtain ⟨F, rfl⟩ : ∃ G, F = G + 1 := ⟨F - 1, by omega⟩
    have : i = 12 := by omega
    subst this
    exact ⟨w, by rw [f_X7_passes_L17, if_neg (by decide)], a⟩
  | succ k ih =>
    intro i F w hk hi hF a
    obtain ⟨F, rfl⟩ : ∃ G, F = G + 1 := ⟨F - 1, by omega⟩
    have hi12 : i < 12 := by omega
    obtain ⟨a1, a2, a3, a4⟩ := a
    have hHi := hH i hi12
    have hwi : w (261 + i) = zev (-1) (H i) := by rw [a4 _ (by omega)]; exact hq i hi12
    rw [f_X7_passes_L17]
    simp (disch := omega) only [zpl1, zpl2, zpl3, zob1, zob2, zob3, zlt, zeq, znn, zn9, zat, zput, zaddc, zag, zas, zl2, zl3, zl4, zl5, zl7, zl8, zl10, zl11, zl12, zl16, zl20, zl22, zl23, zl31, zl32, zl60, zl64, zl80, zl100, zl121, zl181, zl241, zl249, zl261, zl273, zl285, zl297, zl309, zl321, zl322, zl323, zl324, zl325, zl326, zl327, zl500, zl61, zl328, zl329, zl657, zl986, nI_1, z1I, zadd, if_true, if_false, hi12, hwi]
    cases hHc : H i with
    | none =>
      simp only [zev, if_true, show ((-1 : Int32) < 0) = True by simp, zob2]
      have hs : zsm (fun k => zbrH W rn gs (H k)) (i + 1) = zsm (fun k => zbrH W rn gs (H k)) i := by
        simp only [zsm, hHc, zbrH]; rfl
      rw [← hs]
      refine ih (i + 1) F w (by omega) (by omega) (by omega) ⟨fun u hu => ?_, fun j hj => ?_, fun j hj => ?_, a4⟩
      · rw [a1 u hu]
        have hne : S u ≠ 8 + i := fun e => by have := (hHi u).2 ⟨hu, e⟩; rw [hHc] at this; cases this
        have : (8 ≤ S u ∧ S u < 8 + (i + 1)) = (8 ≤ S u ∧ S u < 8 + i) := propext (by omega)
        simp only [this]
      · rw [a2 j hj]
        by_cases e : j = i
        · subst e; simp [zT1, hHc]
        · have : (j < i + 1) = (j < i) := propext (by omega)
          simp only [this]
      · rw [a3 j hj]
        by_cases e : j = i
        · subst e; simp [hHc, zbk]
        · have : (j < i + 1) = (j < i) := propext (by omega)
          simp only [this]
    | some u =>
      have hu := (hHi u).1 hHc
      have hun := hu.1
      have hSu := hu.2
      have hWu := hW u
      have hTi := hT i hi12
      have hwu := a1 u hun
      rw [if_neg (by omega)] at hwu
      have hti := a2 i hi12
      rw [if_neg (by omega)] at hti
      have hbi := a3 i hi12
      rw [if_neg (by omega), hHc] at hbi
      simp only [zbk] at hbi
      have hwo := zwo_le (W u) rn gs
      have hge := zwo_ge rn gs hWu
      simp only [zev]
      have hbr1 : f_X7_isBroken w (nI u) = some (if W u < 32 then 0 else 1) := by
        unfold f_X7_isBroken
        simp (disch := omega) only [zpl1, zpl2, zpl3, zob1, zob2, zob3, zlt, zeq, znn, zn9, zat, zput, zaddc, zag, zas, zl2, zl3, zl4, zl5, zl7, zl8, zl10, zl11, zl12, zl16, zl20, zl22, zl23, zl31, zl32, zl60, zl64, zl80, zl100, zl121, zl181, zl241, zl249, zl261, zl273, zl285, zl297, zl309, zl321, zl322, zl323, zl324, zl325, zl326, zl327, zl500, zl61, zl328, zl329, zl657, zl986, nI_1, z1I, zadd, if_true, if_false, hwu]
        split <;> rfl
      have hbr2 : ∀ x, f_X7_isBroken (upd (upd w (121 + u) (nI (zwo (W u) rn gs))) (273 + i) x) (nI u) = some (if zwo (W u) rn gs < 32 then 0 else 1) := fun x => by
        unfold f_X7_isBroken
        simp (disch := omega) only [zpl1, zpl2, zpl3, zob1, zob2, zob3, zlt, zeq, znn, zn9, zat, zput, zaddc, zag, zas, zl2, zl3, zl4, zl5, zl7, zl8, zl10, zl11, zl12, zl16, zl20, zl22, zl23, zl31, zl32, zl60, zl64, zl80, zl100, zl121, zl181, zl241, zl249, zl261, zl273, zl285, zl297, zl309, zl321, zl322, zl323, zl324, zl325, zl326, zl327, zl500, zl61, zl328, zl329, zl657, zl986, nI_1, z1I, zadd, if_true, if_false, zun, zus]
        split <;> rfl
      have hx2 : (if rn < 2 then (0 : Int32) else 1) = nI (if rn < 2 then 0 else 1) := zite 0 1
      rw [hbr1, hx2]
      have hx2' : (if rn < 2 then 0 else 1) ≤ 1 := by split <;> omega
      simp (disch := omega) only [zpl1, zpl2, zpl3, zob1, zob2, zob3, zlt, zeq, znn, zn9, zat, zput, zaddc, zag, zas, zl2, zl3, zl4, zl5, zl7, zl8, zl10, zl11, zl12, zl16, zl20, zl22, zl23, zl31, zl32, zl60, zl64, zl80, zl100, zl121, zl181, zl241, zl249, zl261, zl273, zl285, zl297, zl309, zl321, zl322, zl323, zl324, zl325, zl326, zl327, zl500, zl61, zl328, zl329, zl657, zl986, nI_1, z1I, zadd, if_true, if_false, hwu, zWornM hWu hr hg, zun, zus, hti, hbr2, hbi]
      have hx291 : ob1 (if (if W u < 32 then (0 : Int32) else 1) = 0 then ob1 (some (if zwo (W u) rn gs < 32 then (0 : Int32) else 1)) (fun b302 => if b302 = 0 then some (0 : Int32) else some 1) else some 0) (fun x => some x) = some (nI (zbr W rn gs u)) := by
        unfold zbr zid
        rcases Nat.lt_or_ge (W u) 32 with c1 | c1
        · rcases Nat.lt_or_ge (zwo (W u) rn gs) 32 with c2 | c2
          · simp [c1, c2, Nat.not_le.mpr c2, zob1, nI_0]
          · simp [c1, c2, Nat.not_lt.mpr c2, zob1]; rfl
        · simp [Nat.not_lt.mpr c1, zob1, nI_0]
      have hx291' : (if (if W u < 32 then (0 : Int32) else 1) = 0 then ob1 (some (if zwo (W u) rn gs < 32 then (0 : Int32) else 1)) (fun b302 => if b302 = 0 then some (0 : Int32) else some 1) else some 0) = some (nI (zbr W rn gs u)) := by
        rw [← hx291]; cases (if (if W u < 32 then (0 : Int32) else 1) = 0 then ob1 (some (if zwo (W u) rn gs < 32 then (0 : Int32) else 1)) (fun b302 => if b302 = 0 then some (0 : Int32) else some 1) else some 0) <;> rfl
      have hx291'' : (if (if W u < 32 then (0 : Int32) else 1) = 0 then (if (if zwo (W u) rn gs < 32 then (0 : Int32) else 1) = 0 then some (0 : Int32) else some 1) else some 0) = some (nI (zbr W rn gs u)) := hx291'
      rw [hx291'', zob1]
      have hzb : zbr W rn gs u = 0 ∨ zbr W rn gs u = 1 := by have := zid_le (W u < 32 ∧ 32 ≤ zwo (W u) rn gs); unfold zbr; omega
      have hx295 : (if nI (zbr W rn gs u) = 0 then some (nI (zid (32 ≤ W u))) else some (1 : Int32)) = some (nI (zbk (zW1 S W n rn gs) (some u))) := by
        have e : zW1 S W n rn gs u = zwo (W u) rn gs := if_pos ⟨hun, by omega, by omega⟩
        simp only [zbk, e]
        unfold zbr zid
        rcases Nat.lt_or_ge (W u) 32 with c1 | c1
        · rcases Nat.lt_or_ge (zwo (W u) rn gs) 32 with c2 | c2
          · simp [c1, c2, Nat.not_le.mpr c2, Nat.not_le.mpr c1, nI_0]
          · simp [c1, c2, Nat.not_le.mpr c1, nI_0]; rfl
        · have c2 : 32 ≤ zwo (W u) rn gs := by omega
          simp [Nat.not_lt.mpr c1, c1, c2, nI_0]
      rw [hx295, zob1]
      have hx299 : (if nI (zbr W rn gs u) = 0 then (0 : Int32) else 1) = nI (zbr W rn gs u) := by
        rcases hzb with e | e <;> rw [e] <;> rfl
      simp (disch := omega) only [zpl1, zpl2, zpl3, zob1, zob2, zob3, zlt, zeq, znn, zn9, zat, zput, zaddc, zag, zas, zl2, zl3, zl4, zl5, zl7, zl8, zl10, zl11, zl12, zl16, zl20, zl22, zl23, zl31, zl32, zl60, zl64, zl80, zl100, zl121, zl181, zl241, zl249, zl261, zl273, zl285, zl297, zl309, zl321, zl322, zl323, zl324, zl325, zl326, zl327, zl500, zl61, zl328, zl329, zl657, zl986, nI_1, z1I, zadd, if_true, if_false]
      rw [hx299, zadd]
      have hs : zsm (fun k => zbrH W rn gs (H k)) (i + 1) = zsm (fun k => zbrH W rn gs (H k)) i + zbr W rn gs u := by
        simp only [zsm, hHc, zbrH]
      rw [← hs]
      refine ih (i + 1) F _ (by omega) (by omega) (by omega) ⟨fun v hv => ?_, fun j hj => ?_, fun j hj => ?_, fun j hj => ?_⟩
      · by_cases e : v = u
        · subst e
          simp (disch := omega) only [zun, zus]
          rw [if_pos ⟨by omega, by omega⟩]
        · simp (disch := omega) only [zun, zus]
          rw [a1 v hv]
          have hne : S v ≠ 8 + i := fun e2 => by have := (hHi v).2 ⟨hv, e2⟩; rw [hHc] at this; cases this; exact e rfl
          have : (8 ≤ S v ∧ S v < 8 + (i + 1)) = (8 ≤ S v ∧ S v < 8 + i) := propext (by omega)
          simp only [this]
      · by_cases e : j = i
        · subst e
          simp (disch := omega) only [zun, zus]
          rw [if_pos (show j < j + 1 by omega)]
          unfold zT1
          congr 1
          by_cases c : rn < 2
          · simp [c, Nat.not_le.mpr c]
          · simp [hHc, c, Nat.not_lt.mp c]
        · simp (disch := omega) only [zun, zus]
          rw [a2 j hj]
          have : (j < i + 1) = (j < i) := propext (by omega)
          simp only [this]
      · by_cases e : j = i
        · subst e
          simp (disch := omega) only [zun, zus]
          rw [if_pos (by omega), hHc]
        · simp (disch := omega) only [zun, zus]
          rw [a3 j hj]
          have : (j < i + 1) = (j < i) := propext (by omega)
          simp only [this]
      · simp (disch := omega) only [zun, zus]
        exact a4 j hj
end hr
