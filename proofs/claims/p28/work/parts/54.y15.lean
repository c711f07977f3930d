def zW1 (S W : Nat → Nat) (n rn gs : Nat) : Nat → Nat := fun u => if u < n ∧ zhd (S u) then zwo (W u) rn gs else W u
def zT1 (H : Nat → Option Nat) (T : Nat → Nat) (rn : Nat) : Nat → Nat := fun k => if H k ≠ none ∧ 2 ≤ rn then T k + 1 else T k
def zbr (W : Nat → Nat) (rn gs u : Nat) : Nat := zid (W u < 32 ∧ 32 ≤ zwo (W u) rn gs)
def zbrH (W : Nat → Nat) (rn gs : Nat) : Option Nat → Nat
  | none => 0
  | some u => zbr W rn gs u
section hr
variable {v : OV} {n : Nat} {S W : Nat → Nat} {H : Nat → Option Nat} {T C P O R Y : Nat → Nat} {h r hs sn : Nat} {sp we le ta : Nat → Int32} {num : Int32} {rooms pu sh ho pa : Nat → Int32} {hours house spent loans surges rate : Int32}
theorem zCnt (aC : zRC n S W sp we ta num) (aP : yP n S H T C P O h pu sh ho pa) {Z : Nat} (hZ : 100 < Z) : f_X0_countShower Z ta sh = some (fun j => if j < 12 ∧ H j ≠ none then sh j + 1 else sh j) := by
  unfold f_X0_countShower
  have h1 := zloop0 (fun F (x : Nat → Int32) i => f_X0_countShower_L2 ta F i x) (fun i => fun j => if j < i ∧ H j ≠ none then sh j + 1 else sh j) 12 _ (F := Z) (by omega) (fun F => by
    show f_X0_countShower_L2 ta (F + 1) _ _ = _
    rw [f_X0_countShower_L2, if_neg (by decide)]) (fun F i hi => by
    show f_X0_countShower_L2 ta (F + 1) _ _ = f_X0_countShower_L2 ta F _ _
    have e := zHas aC aP hi
    rw [f_X0_countShower_L2, e, if_pos (show nI i < 12 from nI_lt (b := 12) hi (by decide)), zpl1, zaddc (by omega) (by omega), nI_1]
    congr 1
    cases hH : H i with
    | none =>
      simp only [if_true]
      funext j
      by_cases hj : j = i
      · subst hj; simp [hH]
      · have : (j < i + 1) = (j < i) := propext (by omega)
        simp only [this]
    | some u =>
      simp only [reduceCtorEq, if_false, z10]
      funext j
      by_cases hj : j = i
      · subst hj
        rw [zus rfl]; simp [hH]
      · rw [zun hj]
        have : (j < i + 1) = (j < i) := propext (by omega)
        simp only [this])
  have h2 : f_X0_countShower_L2 ta Z 0 sh = some (fun j => if j < 12 ∧ H j ≠ none then sh j + 1 else sh j) := by
    have : (fun j => if j < 0 ∧ H j ≠ none then sh j + 1 else sh j) = sh := by funext j; simp
    rw [← h1]; show _ = f_X0_countShower_L2 ta Z 0 _; rw [this]
  rw [h2]; rfl
theorem zWdn (aC : zRC n S W sp we ta num) {Z rn gs : Nat} (hZ : 100 < Z) (hr : rn ≤ 9) (hg : gs ≤ 3) : f_X0_wearDown Z sp we num (nI rn) (nI gs) = some (nI (zsm (fun u => if zhd (S u) then zbr W rn gs u else 0) n), fun v => if v < n ∧ zhd (S v) then nI (zwo (W v) rn gs) else we v) := by
  unfold f_X0_wearDown
  obtain ⟨h0, rfl, h2, h3, h4, h5, h6, h7⟩ := aC
  have h1 := zloop0 (fun F (x : Int32 × (Nat → Int32)) i => f_X0_wearDown_L5 sp (nI n) (nI rn) (nI gs) F x.1 i x.2) (fun i => (nI (zsm (fun u => if zhd (S u) then zbr W rn gs u else 0) i), fun v => if v < i ∧ zhd (S v) then nI (zwo (W v) rn gs) else we v)) n (nI (zsm (fun u => if zhd (S u) then zbr W rn gs u else 0) n), fun v => if v < n ∧ zhd (S v) then nI (zwo (W v) rn gs) else we v) (F := Z) (by omega) (fun F => by
    show f_X0_wearDown_L5 sp (nI n) (nI rn) (nI gs) (F + 1) _ _ _ = _
    rw [f_X0_wearDown_L5]
    simp (disch := omega) only [zpl1, zpl2, zpl3, zob1, zob2, zob3, zlt, zeq, znn, zn9, zat, zput, zaddc, zag, zas, zl2, zl3, zl4, zl5, zl6, zl7, zl8, zl10, zl12, zl16, zl20, zl22, zl23, zl30, zl31, zl32, zl60, zl64, zl80, zl100, zl500, zl580, nI_1, z1I, zadd, if_true, if_false, Nat.lt_irrefl]) (fun F i hi => by
    show f_X0_wearDown_L5 sp (nI n) (nI rn) (nI gs) (F + 1) _ _ _ = f_X0_wearDown_L5 sp (nI n) (nI rn) (nI gs) F _ _ _
    have hS := h2 i hi; have hW := h3 i
    have hwo := zwo_le (W i) rn gs
    have hki : (nI (zpl (S i)) = 1) = zhd (S i) := by
      have := zpl_le (S i)
      rw [show (1 : Int32) = nI 1 from rfl, zeq (by omega) (by omega)]
      apply propext; unfold zpl zhd; constructor
      · intro hh; split at hh <;> (try split at hh) <;> (try split at hh) <;> (try split at hh) <;> omega
      · intro hh; rw [if_neg (by omega), if_pos (by omega)]
    rw [f_X0_wearDown_L5]
    have hwi : (if i < i ∧ zhd (S i) then nI (zwo (W i) rn gs) else we i) = nI (W i) := by
      rw [if_neg (fun x => Nat.lt_irrefl _ x.1)]; exact h6 i (by omega)
    simp (disch := omega) only [zpl1, zpl2, zpl3, zob1, zob2, zob3, zlt, zeq, znn, zn9, zat, zput, zaddc, zag, zas, zl2, zl3, zl4, zl5, zl6, zl7, zl8, zl10, zl12, zl16, zl20, zl22, zl23, zl30, zl31, zl32, zl60, zl64, zl80, zl100, zl500, zl580, nI_1, z1I, zadd, if_true, if_false, hi, h5, zkind, hki, hwi, zWorn hW hr hg]
    simp only [zsm]
    by_cases hc : zhd (S i)
    · have hup : upd (fun v => if v < i ∧ zhd (S v) then nI (zwo (W v) rn gs) else we v) i (nI (zwo (W i) rn gs)) = fun v => if v < i + 1 ∧ zhd (S v) then nI (zwo (W v) rn gs) else we v := by
        funext j
        by_cases hj : j = i
        · subst hj; rw [zus rfl, if_pos ⟨by omega, hc⟩]
        · rw [zun hj]
          have : (j < i + 1) = (j < i) := propext (by omega)
          simp only [this]
      simp only [if_pos hc, hup]
      unfold zbr zid
      by_cases h1 : W i < 32
      · by_cases h2 : zwo (W i) rn gs < 32
        · simp [h1, h2, Nat.not_le.mpr h2, zpl2]
        · simp [h1, h2, Nat.not_lt.mp h2, zpl2, nI_1]
      · simp [h1, zpl2]
    · have hup : (fun v => if v < i ∧ zhd (S v) then nI (zwo (W v) rn gs) else we v) = fun v => if v < i + 1 ∧ zhd (S v) then nI (zwo (W v) rn gs) else we v := by
        funext j
        by_cases hj : j = i
        · subst hj; rw [if_neg (fun x => hc x.2), if_neg (fun x => hc x.2)]
        · have : (j < i + 1) = (j < i) := propext (by omega)
          simp only [this]
      simp only [hc, if_false]
      rw [← hup]
      simp [zpl2])
  have h2' : f_X0_wearDown_L5 sp (nI n) (nI rn) (nI gs) Z 0 0 we = some (nI (zsm (fun u => if zhd (S u) then zbr W rn gs u else 0) n), fun v => if v < n ∧ zhd (S v) then nI (zwo (W v) rn gs) else we v) := by
    have : (fun v => if v < 0 ∧ zhd (S v) then nI (zwo (W v) rn gs) else we v) = we := by funext j; simp
    rw [← h1]; show _ = f_X0_wearDown_L5 sp (nI n) (nI rn) (nI gs) Z 0 0 _; rw [this]
  rw [h2']; rfl
theorem ySurge {Z : Nat} (hZ : 100 < Z) (S0 C0 : Nat → Nat) (H0 : Nat → Option Nat) : ∀ k i F S H C Y hs sp le ta pu house loans, 12 - i = k → i ≤ 12 → 12 - i < F → yD n S W H T C P O R Y h r hs sn sp we le ta num rooms pu sh ho pa hours house spent loans rate → (∀ s, s < 8 → zw S W s n = zw S0 W s n - zwant H0 C0 O s i) → (∀ k, i ≤ k → k < 12 → H k = H0 k ∧ C k = C0 k) → ∃ S' H' C' Y' hs' sp' le' ta' pu' house' loans', f_X0_surge_L12 Z we num ho F (nI i) house loans sp le ta pu = some (house', loans', sp', le', ta', pu') ∧ yD n S' W H' T C' P O R Y' h r hs' sn sp' we le' ta' num rooms pu' sh ho pa hours house' spent loans' rate ∧ (∀ s, s < 8 → zw S' W s n = zw S0 W s n - zwant H0 C0 O s 12) ∧ (∀ k u, k < 12 → H k = some u → H' k = some u) := by
  intro k
  induction k with
  | zero =>
    intro i F S H C Y hs sp le ta pu house loans hk hi hF a ht hs0
    obtain ⟨F, rfl⟩ : ∃ G, F = G + 1 := ⟨F - 1, by omega⟩
    have : i = 12 := by omega
    subst this
    exact ⟨S, H, C, Y, hs, sp, le, ta, pu, house, loans, by rw [f_X0_surge_L12, if_neg (by decide)], a, ht, fun _ _ _ e => e⟩
  | succ k ih =>
    intro i F S H C Y hs sp le ta pu house loans hk hi hF a ht hs0
    obtain ⟨F, rfl⟩ : ∃ G, F = G + 1 := ⟨F - 1, by omega⟩
    have hi12 : i < 12 := by omega
    have aC := a.1
    have aP := a.2.1
    have hn := aC.1
    have hO := aP.2.2.2 i hi12
    have hsi := hs0 i (by omega) hi12
    have q1 : f_X5_bestAt Z sp we num (nI (O i)) = some (zev (-9) (zbest S W (O i) n)) := zBest aC hZ (by omega)
    have q3 := zWould aC aP hi12
    have hwn : ∀ s, zwant H0 C0 O s (i + 1) = zwant H0 C0 O s i + zid (O i = s ∧ H0 i = none ∧ 10 ≤ C0 i) := fun s => rfl
    rw [← hsi.1, ← hsi.2] at hwn
    rw [f_X0_surge_L12]
    simp (disch := omega) only [zpl1, zpl2, zpl3, zob1, zob2, zob3, zlt, zeq, znn, zn9, zat, zput, zaddc, zag, zas, zl2, zl3, zl4, zl5, zl6, zl7, zl8, zl10, zl12, zl16, zl20, zl22, zl23, zl30, zl31, zl32, zl60, zl64, zl80, zl100, zl500, zl580, nI_1, z1I, zadd, if_true, if_false, hi12, hO.1, q1, q3]
    cases hb : zbest S W (O i) n with
    | none =>
      have hz := zw_none.1 hb
      have e9 : (zev (-9) none = (-9 : Int32)) = True := eq_true rfl
      simp only [e9, if_true, zpl6]
      refine ih (i + 1) F S H C Y hs sp le ta pu house loans (by omega) (by omega) (by omega) a (fun s h8 => ?_) (fun k h1 h2 => hs0 k (by omega) h2)
      rw [hwn]
      have := ht s h8
      by_cases e : O i = s
      · subst e; rw [hz] at this ⊢; omega
      · have : zid (O i = s ∧ H i = none ∧ 10 ≤ C i) = 0 := zid_0 (fun x => e x.1)
        omega
    | some u =>
      have hu := zam_ok hb
      have hun := hu.1
      simp only [zev]
      simp (disch := omega) only [zpl1, zpl2, zpl3, zob1, zob2, zob3, zlt, zeq, znn, zn9, zat, zput, zaddc, zag, zas, zl2, zl3, zl4, zl5, zl6, zl7, zl8, zl10, zl12, zl16, zl20, zl22, zl23, zl30, zl31, zl32, zl60, zl64, zl80, zl100, zl500, zl580, nI_1, z1I, zadd, if_true, if_false]
      by_cases hc : H i = none ∧ 10 ≤ C i
      · obtain ⟨b1, b3, b5, b6, b7⟩ := yBor a (k := i) (s := O i) (u := u) hi12 hc.1 hc.2 hO.2 hb
        simp only [hc, and_self, if_true, z10, if_false, b1, zpl6]
        obtain ⟨S', H', C', Y', hs', sp', le', ta', pu', house', loans', l1, l3, l5, l6⟩ := ih (i + 1) F _ _ _ _ _ _ _ _ _ _ _ (by omega) (by omega) (by omega) b3 (fun s h8 => by
          rw [hwn]
          have h1 := ht s h8
          have h2 := zw_up (S := S) (s := s) (t := 8 + i) hun b7
          have e1 : zid (8 + i = s) = 0 := zid_0 (by omega)
          by_cases e : O i = s
          · have e2 : zid (S u = s) = 1 := zid_1 (by rw [b6, e])
            have e3 : zid (O i = s ∧ H i = none ∧ 10 ≤ C i) = 1 := zid_1 ⟨e, hc⟩
            omega
          · have e2 : zid (S u = s) = 0 := zid_0 (by rw [b6]; exact e)
            have e3 : zid (O i = s ∧ H i = none ∧ 10 ≤ C i) = 0 := zid_0 (fun x => e x.1)
            omega) (fun k h1 h2 => by
          rw [zuH_n (by omega), zup_n (by omega)]; exact hs0 k (by omega) h2)
        refine ⟨S', H', C', Y', hs', sp', le', ta', pu', house', loans', l1, l3, l5, fun j w hj e => l6 j w hj ?_⟩
        by_cases ej : j = i
        · subst ej; rw [hc.1] at e; cases e
        · rw [zuH_n ej]; exact e
      · simp only [hc, if_false, if_true, zpl6]
        refine ih (i + 1) F S H C Y hs sp le ta pu house loans (by omega) (by omega) (by omega) a (fun s h8 => ?_) (fun k h1 h2 => hs0 k (by omega) h2)
        rw [hwn]
        have := ht s h8
        have : zid (O i = s ∧ H i = none ∧ 10 ≤ C i) = 0 := zid_0 (fun x => hc x.2)
        omega
set_option maxHeartbeats 1000000 in
theorem yPass {Z rn gs : Nat} (hZ : 5000 < Z) (ok : OK v) (a : yC n S W H T C P O R Y h r hs sn v.1) (hh : h < 100) (hr : rn ≤ 9) (hg : gs ≤ 3) : ∃ c' S' H' C' Y' hs', m_hour Z v (nI rn) (nI gs) = some (nI (zsm (fun k => zbrH W rn gs (H k)) 12), yW v c') ∧ yC n S' (zW1 S W n rn gs) H' (zT1 H T rn) C' P O R Y' (h + 1) r hs' sn c' ∧ c'.2.2.2.2.2.2.2.2.2.2.2.2.2.2.1 = v.1.2.2.2.2.2.2.2.2.2.2.2.2.2.2.1 + (if rn < 5 then 0 else 1) ∧ (∀ k u, k < 12 → H k = some u → H' k = some u) ∧ (5 ≤ rn → ∀ s, s < 8 → zw S' (zW1 S W n rn gs) s n = zw S W s n - zwant H C O s 12) := by
  obtain ⟨aC, aP, aG⟩ := id a
  have hn := aC.1
  have hbc : zsm (fun u => if zhd (S u) then zbr W rn gs u else 0) n = zsm (fun k => zbrH W rn gs (H k)) 12 := by
    rw [zSumH aP]
    refine zsm_congr (fun k _ => ?_)
    cases H k <;> rfl
  have e1 : f_X6_outside (nI rn) 0 9 = 0 := youtI (m := 9) (M := 9) rfl (by decide) hr
  have f1 : f_X6_outside (nI gs) 0 3 = 0 := youtI (m := 3) (M := 3) rfl (by decide) hg
  have q1 : (nI h < 500) = (h < 500) := zlt (b := 500) (by omega) (by omega)
  generalize hW1 : zW1 S W n rn gs = W1
  generalize hT1 : zT1 H T rn = T1
  have eW1 : ∀ u, W1 u = if u < n ∧ zhd (S u) then zwo (W u) rn gs else W u := fun u => by rw [← hW1]; rfl
  have eT1 : ∀ k, T1 k = if H k ≠ none ∧ 2 ≤ rn then T k + 1 else T k := fun k => by rw [← hT1]; rfl
  have hsh : ∃ sh1 : Nat → Int32, (if nI rn < 2 then some v.1.2.2.2.2.2.2.2.1 else ob1 (f_X0_countShower Z v.1.2.2.2.1 v.1.2.2.2.2.2.2.2.1) (fun m38 => some m38)) = some sh1 ∧ ∀ k, k < 12 → sh1 k = nI (T1 k) := by
    have e2 : (nI rn < 2) = (rn < 2) := zlt (b := 2) (by omega) (by omega)
    by_cases c : rn < 2
    · refine ⟨v.1.2.2.2.2.2.2.2.1, by simp only [e2, c, if_true], fun k hk => ?_⟩
      rw [(aP.2.1 k hk).1, eT1, if_neg (fun x => by omega)]
    · refine ⟨fun j => if j < 12 ∧ H j ≠ none then v.1.2.2.2.2.2.2.2.1 j + 1 else v.1.2.2.2.2.2.2.2.1 j, by simp only [e2, c, if_false, zCnt aC aP (show 100 < Z by omega), zob1], fun k hk => ?_⟩
      show (if k < 12 ∧ H k ≠ none then v.1.2.2.2.2.2.2.2.1 k + 1 else v.1.2.2.2.2.2.2.2.1 k) = nI (T1 k)
      rw [eT1, (aP.2.1 k hk).1]
      by_cases d : H k = none
      · simp [d]
      · rw [if_pos ⟨hk, d⟩, if_pos ⟨d, by omega⟩, nI_1]
  obtain ⟨sh1, hs1, hs2⟩ := hsh
  have bC : zRC n S W1 v.1.1 (fun u => if u < n ∧ zhd (S u) then nI (zwo (W u) rn gs) else v.1.2.1 u) v.1.2.2.2.1 v.1.2.2.2.2.1 := by
    obtain ⟨h0, h1, h2, h3, h4, h5, h6, h7⟩ := aC
    refine ⟨h0, h1, h2, fun u => ?_, fun u hu => ?_, h5, fun u hu => ?_, h7⟩
    · rw [eW1]
      split
      · exact zwo_le _ _ _
      · exact h3 u
    · rw [eW1, if_neg (fun x => by omega)]; exact h4 u hu
    · show (if u < n ∧ zhd (S u) then nI (zwo (W u) rn gs) else v.1.2.1 u) = nI (W1 u)
      rw [eW1, h6 u hu, zite]
  have bP : yP n S H T1 C P O (h + 1) v.1.2.2.2.2.2.2.1 sh1 v.1.2.2.2.2.2.2.2.2.1 v.1.2.2.2.2.2.2.2.2.2.1 := by
    obtain ⟨h0, h2, h4, h5⟩ := aP
    refine ⟨h0, fun k hk => ?_, h4, h5⟩
    have hT := h2 k hk
    refine ⟨hs2 k hk, ?_, fun e => ?_⟩
    · rw [eT1]; split <;> omega
    · rw [eT1, if_neg (fun x => x.1 e)]; exact hT.2.2 e
  obtain ⟨g0, g1, g2, g3, g4, g5, g6, g7, g8, g9, g10, g11, g12⟩ := aG
  have bG : yG n S W1 P R Y (h + 1) r hs sn v.1.2.2.2.2.2.1 v.1.2.2.1 (nI (h + 1)) v.1.2.2.2.2.2.2.2.2.2.2.2.1 v.1.2.2.2.2.2.2.2.2.2.2.2.2.1 v.1.2.2.2.2.2.2.2.2.2.2.2.2.2.1 v.1.2.2.2.2.2.2.2.2.2.2.2.2.2.2.2 := by
    refine ⟨g0, rfl, g2, g3, g4, g5, by omega, g7, g8, g9, g10, g11, fun u hu hS2 => ?_⟩
    rw [eW1, if_neg (fun x => by have := x.2; unfold zhd at this; omega)]
    exact g12 u hu hS2
  have hwsame : ∀ s, s < 8 → zw S W1 s n = zw S W s n := fun s hs => zsm_congr (fun u hu => by
    by_cases e : S u = s
    · rw [eW1, if_neg (fun x => by have := x.2; unfold zhd at this; omega)]
    · rw [zid_0 (fun x => e x.1), zid_0 (fun x => e x.1)])
  have e5 : (nI rn < 5) = (rn < 5) := zlt (b := 5) (by omega) (by omega)
  unfold m_hour
  rw [gO_in ok]
  unfold f_X6_hour f_X0_passingError
  simp only [e1, f1, g1, q1, if_true]
  rw [if_pos (show h < 500 by omega), if_pos rfl]
  unfold f_X0_passHour
  rw [hs1, zWdn aC (by omega) hr hg, hbc, nI_1]
  by_cases c : rn < 5
  · simp only [e5, c, if_true, zob7, zob1, zob2, zob11]
    refine ⟨_, S, H, C, Y, hs, rfl, ⟨bC, bP, bG⟩, ?_, fun k u _ e => e, fun x => by omega⟩
    show v.1.2.2.2.2.2.2.2.2.2.2.2.2.2.2.1 = _
    rw [Int32.add_zero]
  · simp only [e5, c, if_false]
    obtain ⟨S', H', C', Y', hs', sp', le', ta', pu', house', loans', l1, l3, l5, l6⟩ := ySurge (n := n) (W := W1) (T := T1) (P := P) (O := O) (R := R) (h := h + 1) (r := r) (sn := sn) (we := fun u => if u < n ∧ zhd (S u) then nI (zwo (W u) rn gs) else v.1.2.1 u) (num := v.1.2.2.2.2.1) (rooms := v.1.2.2.2.2.2.1) (sh := sh1) (ho := v.1.2.2.2.2.2.2.2.2.1) (pa := v.1.2.2.2.2.2.2.2.2.2.1) (hours := nI (h + 1)) (spent := v.1.2.2.2.2.2.2.2.2.2.2.2.2.1) (rate := v.1.2.2.2.2.2.2.2.2.2.2.2.2.2.2.2) (Z := Z) (by omega) S C H 12 0 Z S H C Y hs v.1.1 v.1.2.2.1 v.1.2.2.2.1 v.1.2.2.2.2.2.2.1 v.1.2.2.2.2.2.2.2.2.2.2.2.1 v.1.2.2.2.2.2.2.2.2.2.2.2.2.2.1 rfl (by omega) (by omega) ⟨bC, bP, bG⟩ (fun s hs => rfl) (fun k _ _ => ⟨rfl, rfl⟩)
    have l1' : f_X0_surge_L12 Z (fun u => if u < n ∧ zhd (S u) then nI (zwo (W u) rn gs) else v.1.2.1 u) v.1.2.2.2.2.1 v.1.2.2.2.2.2.2.2.2.1 Z 0 v.1.2.2.2.2.2.2.2.2.2.2.2.1 v.1.2.2.2.2.2.2.2.2.2.2.2.2.2.1 v.1.1 v.1.2.2.1 v.1.2.2.2.1 v.1.2.2.2.2.2.2.1 = some (house', loans', sp', le', ta', pu') := l1
    unfold f_X0_surge
    simp only [l1', zob7, zob6, zob1, zob2, zob11]
    exact ⟨_, S', H', C', Y', hs', rfl, l3, rfl, l6, fun _ s hs => by rw [l5 s hs, hwsame s hs]⟩
end hr
