def zuH (H : Nat → Option Nat) (k : Nat) (x : Option Nat) : Nat → Option Nat := fun v => if v = k then x else H v
theorem zuH_s {H : Nat → Option Nat} {k v : Nat} {x : Option Nat} (h : v = k) : zuH H k x v = x := by unfold zuH; rw [if_pos h]
theorem zuH_n {H : Nat → Option Nat} {k v : Nat} {x : Option Nat} (h : v ≠ k) : zuH H k x v = H v := by unfold zuH; rw [if_neg h]
theorem zm10 {x : Nat} (h : 10 ≤ x) : nI x + -10 = nI (x - 10) := by
  obtain ⟨y, rfl⟩ : ∃ y, x = y + 10 := ⟨x - 10, by omega⟩
  rw [show y + 10 - 10 = y by omega, ← nI_add, Int32.add_assoc, show nI 10 + -10 = 0 from rfl, Int32.add_zero]
theorem zs10' {x : Nat} (h : 10 ≤ x) : nI x - nI 10 = nI (x - 10) := zsub h
section op
variable {n : Nat} {S W : Nat → Nat} {H : Nat → Option Nat} {T C P O : Nat → Nat} {h r : Nat} {sp we le ta : Nat → Int32} {num : Int32} {rooms pu sh ho pa : Nat → Int32} {hours house spent loans surges rate : Int32} {q w : Nat → Int32}
def zqB (q : Nat → Int32) (le : Nat → Int32) (C : Nat → Nat) (house loans : Int32) (k u : Nat) : Nat → Int32 :=
  upd (upd (upd (upd (upd (upd (upd (upd (upd q (1 + u) 1) (61 + u) (nI k)) (181 + u) (le u + 1)) (261 + k) (nI u)) (249 + k) (nI (C k - 10))) 321 (house + 10)) (273 + k) 0) (285 + k) 0) 325 (loans + 1)
theorem zBor (a : zCT n S W H T C P O h r sp we le ta num rooms pu sh ho pa hours house spent loans surges rate q) {Z k s u : Nat} (hZ : 100 < Z) (hk : k < 12) (hH : H k = none) (hC : 10 ≤ C k) (hs : s < 8) (hb : zbest S W s n = some u) :
    f_X0_handOut sp le ta pu house loans (nI k) (nI u) = ((f_X5_move sp ta (nI u) (nI (8 + k))).1, upd le u (le u + 1), (f_X5_move sp ta (nI u) (nI (8 + k))).2, upd pu k (nI (C k - 10)), house + 10, loans + 1) ∧
    f_X7_borrows Z q (nI k) (nI s) = some (nI u, zqB q le C house loans k u) ∧
    zCT n (zup S u (8 + k)) W (zuH H k (some u)) T (zup C k (C k - 10)) P O h r (f_X5_move sp ta (nI u) (nI (8 + k))).1 we (upd le u (le u + 1)) (f_X5_move sp ta (nI u) (nI (8 + k))).2 num rooms (upd pu k (nI (C k - 10))) sh ho pa hours (house + 10) spent (loans + 1) surges rate (zqB q le C house loans k u) ∧
    (∀ i, 328 ≤ i → zqB q le C house loans k u i = q i) ∧ u < n ∧ S u = s ∧ W u < 32 := by
  obtain ⟨aC, aM, aL, aP, aG⟩ := a
  have hu := zam_ok hb
  have hSu : S u = s := hu.2.1
  have hWu : W u < 32 := hu.2.2
  have hun := hu.1
  have hn := aC.1
  have hCk := aP.2.2.2.2.1 k hk
  refine ⟨?_, ?_, ⟨zMv aC hun (by omega), ?_, ?_, ?_, ?_⟩, fun i hi => ?_, hun, hSu, hWu⟩
  · unfold f_X0_handOut
    have e8 : (8 : Int32) + nI k = nI (8 + k) := zadd 8 k
    rw [e8, zaddc (by omega) (by omega), zaddc (by omega) (by omega), hCk.1, zm10 hC]
    rfl
  · unfold f_X7_borrows
    rw [zBestM aM hZ hs, hb]
    simp only [zev, zob1]
    rw [zGo (by omega), zob1]
    have eg := aL.1 u hun
    have e3 := aG.2.2.2.1
    have e5 := aG.2.2.2.2.2.2.1
    have e11 : nI 1 = (1 : Int32) := rfl
    simp (disch := omega) only [zpl1, zpl2, zpl3, zob1, zob2, zob3, zlt, zeq, znn, zn9, zat, zput, zaddc, zag, zas, zl2, zl3, zl4, zl5, zl7, zl8, zl10, zl11, zl12, zl16, zl20, zl22, zl23, zl31, zl32, zl60, zl64, zl80, zl100, zl121, zl181, zl241, zl249, zl261, zl273, zl285, zl297, zl309, zl321, zl322, zl323, zl324, zl325, zl326, zl327, zl500, zl61, zl328, zl329, zl657, zl986, nI_1, z1I, zadd, if_true, if_false, zun, zus, eg, hCk.2.1, e3, e5, zs10' hC]
    rfl
  · refine (zMm aM (u := u) (t := 8 + k) (x := 1) (y := nI k) hun (by omega) ?_ (fun _ => ?_)).fr (fun i hi => ?_)
    · unfold zpl; rw [if_neg (by omega), if_pos (by omega)]; rfl
    · unfold zwh; rw [if_neg (by omega), if_pos (by omega)]; congr 1; omega
    · unfold zqB
      rw [zun (by omega), zun (by omega), zun (by omega), zun (by omega), zun (by omega), zun (by omega), zun (by omega)]
  · refine ⟨fun v hv => ?_, fun v hv h6 => ?_⟩
    · unfold zqB
      by_cases e : v = u
      · subst e; simp (disch := omega) only [zun, zus]
      · simp (disch := omega) only [zun, zus]; exact aL.1 v hv
    · rw [zun (by omega)]; exact aL.2 v hv h6
  · refine ⟨fun j hj v => ?_, fun j hj => ?_, fun j hj => ?_, fun j hj => ?_, fun j hj => ?_, fun j hj => ?_⟩
    · by_cases e : j = k
      · subst e
        rw [zuH_s rfl]
        constructor
        · intro e; cases e; exact ⟨hun, zup_s rfl⟩
        · rintro ⟨x, y⟩
          by_cases e2 : v = u
          · rw [e2]
          · rw [zup_n e2] at y
            have := (aP.1 j hj v).2 ⟨x, y⟩
            rw [hH] at this; cases this
      · rw [zuH_n e, aP.1 j hj v]
        by_cases e2 : v = u
        · subst e2
          rw [zup_s rfl]
          constructor
          · rintro ⟨x, y⟩; omega
          · rintro ⟨x, y⟩; omega
        · rw [zup_n e2]
    · unfold zqB
      by_cases e : j = k
      · subst e; simp (disch := omega) only [zun, zus]; rw [zuH_s rfl]; rfl
      · simp (disch := omega) only [zun, zus]; rw [zuH_n e]; exact aP.2.1 j hj
    · have hT := aP.2.2.1 j hj
      unfold zqB
      by_cases e : j = k
      · subst e
        have := hT.2.2.2 hH
        simp (disch := omega) only [zun, zus]
        exact ⟨hT.1, by rw [this]; rfl, hT.2.2.1, fun _ => this⟩
      · simp (disch := omega) only [zun, zus]
        rw [zuH_n e]
        exact hT
    · unfold zqB
      by_cases e : j = k
      · subst e; simp (disch := omega) only [zun, zus]
        rw [zuH_s rfl]
        simp only [zbk, zid, if_neg (show ¬ 32 ≤ W u by omega)]; rfl
      · simp (disch := omega) only [zun, zus]; rw [zuH_n e]; exact aP.2.2.2.1 j hj
    · have h4 := aP.2.2.2.2.1 j hj
      unfold zqB
      by_cases e : j = k
      · subst e
        simp (disch := omega) only [zun, zus]
        rw [zuH_s rfl, zup_s rfl]
        rw [hH] at h4
        simp only [if_true] at h4
        refine ⟨rfl, rfl, h4.2.2.1, h4.2.2.2.1, ?_⟩
        simp; omega
      · simp (disch := omega) only [zun, zus]
        rw [zuH_n e, zup_n e]; exact h4
    · have h5 := aP.2.2.2.2.2 j hj
      unfold zqB
      simp (disch := omega) only [zun, zus]
      exact h5
  · obtain ⟨g0, g1, g2, g3, g4, g5, g6, g7, g8, g9, g10, g11⟩ := aG
    refine ⟨fun i hi => ?_, g1, ?_, ?_, ?_, ?_, ?_, ?_, g8, ?_, g10, g11⟩
    all_goals (unfold zqB; simp (disch := omega) only [zun, zus])
    all_goals first | done | assumption | exact g0 i hi
  · unfold zqB
    simp (disch := omega) only [zun, zus]
def zqR (q : Nat → Int32) (C P : Nat → Nat) (house : Int32) (k u s f : Nat) : Nat → Int32 :=
  upd (upd (upd (upd (upd (upd (upd (upd (upd (upd q (1 + u) 0) (61 + u) (nI s)) (261 + k) (-1)) (273 + k) 0) (285 + k) 0) (297 + k) (nI s)) (249 + k) (nI (C k + (10 - f)))) 321 (house - nI (10 - f))) (309 + k) (nI (P k + f))) 324 (nI (zsm P 12 + f))
theorem zfee_le (r t w : Nat) : zfee r t w ≤ 10 := by unfold zfee; omega
theorem zBri (a : zCT n S W H T C P O h r sp we le ta num rooms pu sh ho pa hours house spent loans surges rate q) {Z k s u : Nat} (hZ : 100 < Z) (hk : k < 12) (hH : H k = some u) (hs : s < 8) :
    ∃ f, f ≤ 10 ∧ f_X0_takeBack Z sp we ta num pu sh ho pa house rate (nI k) (nI s) = some (nI f, (f_X5_move sp ta (nI u) (nI s)).1, (f_X5_move sp ta (nI u) (nI s)).2, upd pu k (nI (C k + (10 - f))), upd sh k 0, upd ho k (nI s), upd pa k (nI (P k + f)), house - nI (10 - f)) ∧
    f_X7_brings q (nI k) (nI s) = some (nI f, zqR q C P house k u s f) ∧
    zCT n (zup S u s) W (zuH H k none) (zup T k 0) (zup C k (C k + (10 - f))) (zup P k (P k + f)) (zup O k s) h r (f_X5_move sp ta (nI u) (nI s)).1 we le (f_X5_move sp ta (nI u) (nI s)).2 num rooms (upd pu k (nI (C k + (10 - f)))) (upd sh k 0) (upd ho k (nI s)) (upd pa k (nI (P k + f))) hours (house - nI (10 - f)) spent loans surges rate (zqR q C P house k u s f) ∧
    (∀ i, 328 ≤ i → zqR q C P house k u s f i = q i) := by
  obtain ⟨aC, aM, aL, aP, aG⟩ := a
  have hu := (aP.1 k hk u).1 hH
  have hun := hu.1
  have hSu := hu.2
  have hn := aC.1
  have hCk := aP.2.2.2.2.1 k hk
  have hTk := aP.2.2.1 k hk
  have hBk := aP.2.2.2.1 k hk
  have hHk := aP.2.1 k hk
  have hWu := aC.2.2.2.1 u
  have hsP : zsm P 12 ≤ 480 := by
    have := zsm_le (f := P) (b := 40) (n := 12) (fun i hi => by have := (aP.2.2.2.2.1 i hi).2.2.2.2; omega)
    omega
  have hr5 := aG.2.2.2.2.2.2.2.2.2.2.1
  have hh6 := aG.2.2.2.2.2.2.2.2.2.2.2
  have hrt := aG.2.2.2.2.2.2.2.2.1
  have hrq := aG.2.2.2.2.2.2.2.2.2.1
  have hz0 := zpl0s hs
  have hmon : f_X0_feeAfter Z sp we num sh (nI r) (nI k) 0 0 = some (nI (zfee r (T k) (W u))) := zFee aC aP (Z := Z) (m := 0) (rn := 0) (by omega) hk hH hr5 hh6 (by omega) (by omega)
  refine ⟨zfee r (T k) (W u), zfee_le _ _ _, ?_, ?_, ⟨zMv aC hun (by omega), ?_, ?_, ?_, ?_⟩, fun i hi => ?_⟩
  · unfold f_X0_takeBack
    have hf := zfee_le r (T k) (W u)
    rw [hrt, hmon, zob1, zHand aC aP hZ hk, hH, zob1]
    simp only [zev]
    rw [show (10 : Int32) = nI 10 from rfl, zsub hf]
    simp (disch := omega) only [zpl1, zpl2, zpl3, zob1, zob2, zob3, zlt, zeq, znn, zn9, zat, zput, zaddc, zag, zas, zl2, zl3, zl4, zl5, zl7, zl8, zl10, zl11, zl12, zl16, zl20, zl22, zl23, zl31, zl32, zl60, zl64, zl80, zl100, zl121, zl181, zl241, zl249, zl261, zl273, zl285, zl297, zl309, zl321, zl322, zl323, zl324, zl325, zl326, zl327, zl500, zl61, zl328, zl329, zl657, zl986, nI_1, z1I, zadd, if_true, if_false, hCk.1, hCk.2.2.1]
    rfl
  · have hf := zfee_le r (T k) (W u)
    unfold f_X7_brings
    rw [hH] at hBk hHk
    simp only [zev, zbk] at hBk hHk
    have hx : (if nI (zid (32 ≤ W u)) = 1 then (1 : Int32) else 0) = if W u < 32 then 0 else 1 := by
      rcases Nat.lt_or_ge (W u) 32 with hc | hc
      · simp [zid, hc, Nat.not_le.mpr hc, nI_0]
      · simp only [zid, hc, if_true, Nat.not_lt.mpr hc, if_false]; rfl
    have hfee : f_X7_fee q (nI (T k)) (if W u < 32 then 0 else 1) = some (nI (zfee r (T k) (W u))) := zFeeM hrq rfl hr5 (by omega)
    have e3 := aG.2.2.2.1
    have e4 := aG.2.2.2.2.2.1
    generalize hff : zfee r (T k) (W u) = f at *
    have e10 : nI 10 - nI f = nI (10 - f) := zsub hf
    simp (disch := omega) only [zpl1, zpl2, zpl3, zob1, zob2, zob3, zlt, zeq, znn, zn9, zat, zput, zaddc, zag, zas, zl2, zl3, zl4, zl5, zl7, zl8, zl10, zl11, zl12, zl16, zl20, zl22, zl23, zl31, zl32, zl60, zl64, zl80, zl100, zl121, zl181, zl241, zl249, zl261, zl273, zl285, zl297, zl309, zl321, zl322, zl323, zl324, zl325, zl326, zl327, zl500, zl61, zl328, zl329, zl657, zl986, nI_1, z1I, zadd, if_true, if_false, zun, zus, hTk.2.1, hBk, hHk, hx, hfee, zGo, hCk.2.1, hCk.2.2.2.1, e3, e4, e10]
    rfl
  · have hf := zfee_le r (T k) (W u)
    refine (zMm aM (u := u) (t := s) (x := 0) (y := nI s) hun (by omega) hz0.1 (fun _ => hz0.2)).fr (fun i hi => ?_)
    unfold zqR
    simp (disch := omega) only [zun, zus]
  · refine ⟨fun v hv => ?_, aL.2⟩
    unfold zqR
    simp (disch := omega) only [zun, zus]
    exact aL.1 v hv
  · have hf := zfee_le r (T k) (W u)
    generalize hff : zfee r (T k) (W u) = f at *
    refine ⟨fun j hj v => ?_, fun j hj => ?_, fun j hj => ?_, fun j hj => ?_, fun j hj => ?_, fun j hj => ?_⟩
    · by_cases e : j = k
      · subst e
        rw [zuH_s rfl]
        constructor
        · intro e; cases e
        · rintro ⟨x, y⟩
          by_cases e2 : v = u
          · rw [e2, zup_s rfl] at y; omega
          · rw [zup_n e2] at y
            have := (aP.1 j hj v).2 ⟨x, y⟩
            rw [hH] at this; cases this; exact absurd rfl e2
      · rw [zuH_n e, aP.1 j hj v]
        by_cases e2 : v = u
        · subst e2
          rw [zup_s rfl]
          constructor
          · rintro ⟨x, y⟩; omega
          · rintro ⟨x, y⟩; omega
        · rw [zup_n e2]
    · unfold zqR
      by_cases e : j = k
      · subst e; simp (disch := omega) only [zun, zus]; rw [zuH_s rfl]; rfl
      · simp (disch := omega) only [zun, zus]; rw [zuH_n e]; exact aP.2.1 j hj
    · have hT := aP.2.2.1 j hj
      unfold zqR
      by_cases e : j = k
      · subst e
        simp (disch := omega) only [zun, zus]
        rw [zup_s rfl]
        exact ⟨rfl, rfl, by omega, fun _ => rfl⟩
      · simp (disch := omega) only [zun, zus]
        rw [zuH_n e, zup_n e]
        exact hT
    · unfold zqR
      by_cases e : j = k
      · subst e; simp (disch := omega) only [zun, zus]
        rw [zuH_s rfl]; rfl
      · simp (disch := omega) only [zun, zus]; rw [zuH_n e]; exact aP.2.2.2.1 j hj
    · have h4 := aP.2.2.2.2.1 j hj
      unfold zqR
      by_cases e : j = k
      · subst e
        simp (disch := omega) only [zun, zus]
        rw [zuH_s rfl, zup_s rfl, zup_s rfl]
        rw [hH] at h4
        simp only [reduceCtorEq, if_false] at h4
        refine ⟨rfl, rfl, rfl, rfl, ?_⟩
        simp; omega
      · simp (disch := omega) only [zun, zus]
        rw [zuH_n e, zup_n e, zup_n e]; exact h4
    · have h5 := aP.2.2.2.2.2 j hj
      unfold zqR
      by_cases e : j = k
      · subst e
        simp (disch := omega) only [zun, zus]
        rw [zup_s rfl]; exact ⟨rfl, rfl, hs⟩
      · simp (disch := omega) only [zun, zus]
        rw [zup_n e]; exact h5
  · have hf := zfee_le r (T k) (W u)
    generalize hff : zfee r (T k) (W u) = f at *
    have hsum : zsm (zup P k (P k + f)) 12 = zsm P 12 + f := by
      have := zsm_upd (f := P) (g := zup P k (P k + f)) (n := 12) (k := k) hk (fun i _ hne => zup_n hne)
      rw [zup_s rfl] at this; omega
    obtain ⟨g0, g1, g2, g3, g4, g5, g6, g7, g8, g9, g10, g11⟩ := aG
    refine ⟨fun i hi => ?_, g1, ?_, ?_, ?_, ?_, ?_, ?_, g8, ?_, g10, g11⟩
    all_goals (unfold zqR; simp (disch := omega) only [zun, zus])
    all_goals first | done | assumption | exact g0 i hi | (rw [hsum])
  · unfold zqR
    simp (disch := omega) only [zun, zus]
end op
