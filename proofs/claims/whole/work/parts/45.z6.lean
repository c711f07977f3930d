def zAg (a b : Option Int32) : Prop := ∃ r, a = some r ∧ b = some r
theorem zAg.rf {r : Int32} : zAg (some r) (some r) := ⟨r, rfl, rfl⟩
theorem zAg.ite {c : Prop} [Decidable c] {a b a' b' : Option Int32} (h1 : c → zAg a a') (h2 : ¬ c → zAg b b') : zAg (if c then a else b) (if c then a' else b') := by
  by_cases h : c
  · rw [if_pos h, if_pos h]; exact h1 h
  · rw [if_neg h, if_neg h]; exact h2 h
theorem zr7 (p : Int32) : (∃ j, j ≤ 7 ∧ p = nI j ∧ f_X6_outside p 0 7 = 0 ∧ f_X7_in p 0 7 = 1) ∨ (f_X6_outside p 0 7 = 1 ∧ f_X7_in p 0 7 = 0) := zrng 7 (by decide) p
theorem zr11 (p : Int32) : (∃ j, j ≤ 11 ∧ p = nI j ∧ f_X6_outside p 0 11 = 0 ∧ f_X7_in p 0 11 = 1) ∨ (f_X6_outside p 0 11 = 1 ∧ f_X7_in p 0 11 = 0) := zrng 11 (by decide) p
theorem zr1 (p : Int32) : (∃ j, j ≤ 1 ∧ p = nI j ∧ f_X6_outside p 0 1 = 0 ∧ f_X7_in p 0 1 = 1) ∨ (f_X6_outside p 0 1 = 1 ∧ f_X7_in p 0 1 = 0) := zrng 1 (by decide) p
theorem zr5 (p : Int32) : (∃ j, j ≤ 5 ∧ p = nI j ∧ f_X6_outside p 0 5 = 0 ∧ f_X7_in p 0 5 = 1) ∨ (f_X6_outside p 0 5 = 1 ∧ f_X7_in p 0 5 = 0) := zrng 5 (by decide) p
theorem zr9 (p : Int32) : (∃ j, j ≤ 9 ∧ p = nI j ∧ f_X6_outside p 0 9 = 0 ∧ f_X7_in p 0 9 = 1) ∨ (f_X6_outside p 0 9 = 1 ∧ f_X7_in p 0 9 = 0) := zrng 9 (by decide) p
theorem zr3 (p : Int32) : (∃ j, j ≤ 3 ∧ p = nI j ∧ f_X6_outside p 0 3 = 0 ∧ f_X7_in p 0 3 = 1) ∨ (f_X6_outside p 0 3 = 1 ∧ f_X7_in p 0 3 = 0) := zrng 3 (by decide) p
theorem zr8 (p : Int32) : (∃ j, j ≤ 8 ∧ p = nI j ∧ f_X6_outside p 0 8 = 0 ∧ f_X7_in p 0 8 = 1) ∨ (f_X6_outside p 0 8 = 1 ∧ f_X7_in p 0 8 = 0) := zrng 8 (by decide) p
theorem zr50 (p : Int32) : (∃ j, j ≤ 50 ∧ p = nI j ∧ f_X6_outside p 0 50 = 0 ∧ f_X7_in p 0 50 = 1) ∨ (f_X6_outside p 0 50 = 1 ∧ f_X7_in p 0 50 = 0) := zrng 50 (by decide) p
theorem zs20 (p : Int32) : (∃ j, 1 ≤ j ∧ j ≤ 20 ∧ p = nI j ∧ f_X6_outside p 1 20 = 0 ∧ f_X7_in p 1 20 = 1) ∨ (f_X6_outside p 1 20 = 1 ∧ f_X7_in p 1 20 = 0) := zrng1 20 (by decide) p
theorem zs10 (p : Int32) : (∃ j, 1 ≤ j ∧ j ≤ 10 ∧ p = nI j ∧ f_X6_outside p 1 10 = 0 ∧ f_X7_in p 1 10 = 1) ∨ (f_X6_outside p 1 10 = 1 ∧ f_X7_in p 1 10 = 0) := zrng1 10 (by decide) p
theorem zs255 (p : Int32) : (∃ j, 1 ≤ j ∧ j ≤ 255 ∧ p = nI j ∧ f_X6_outside p 1 255 = 0 ∧ f_X7_in p 1 255 = 1) ∨ (f_X6_outside p 1 255 = 1 ∧ f_X7_in p 1 255 = 0) := zrng1 255 (by decide) p
theorem zTold {o : Option Nat} (h : ∀ m, o = some m → m < 1000) : f_X7_told (zev (-1) o) = zev (-9) o := by
  unfold f_X7_told
  cases o with
  | none => rfl
  | some m => have := h m rfl; simp only [zev]; simp (disch := omega) only [zpl1, zpl2, zpl3, zob1, zob2, zob3, zlt, zeq, znn, zn9, zat, zput, zaddc, zag, zas, zl2, zl3, zl4, zl5, zl7, zl8, zl10, zl11, zl12, zl16, zl20, zl22, zl23, zl31, zl32, zl60, zl64, zl80, zl100, zl121, zl181, zl241, zl249, zl261, zl273, zl285, zl297, zl309, zl321, zl322, zl323, zl324, zl325, zl326, zl327, zl500, zl61, zl328, zl329, zl657, zl986, nI_1, z1I, zadd, if_true, if_false]
theorem zToldN {m : Nat} (h : m < 1000) : f_X7_told (nI m) = nI m := zTold (o := some m) (fun k hk => by cases hk; exact h)
theorem z10 : ((1 : Int32) = 0) = False := by simp
theorem zz_stand {Z : Nat} {c : CV} {q : Nat → Int32} (hZ : 5000 < Z) (a : zRT c q) (p1 p2 : Int32) : zAg (f_X6_stand Z c p1 p2) (f_X7_stand Z q p1 p2) := by
  obtain ⟨n, S, W, H, T, C, P, O, h, r, hh, aC, aM, aL, aP, aG⟩ := a
  unfold f_X6_stand f_X7_stand f_X7_isStand
  rcases zr7 p1 with ⟨s, hs, rfl, e1, e2⟩ | ⟨e1, e2⟩
  · have hz : (0 : Int32) = nI (zpl s) := by unfold zpl; rw [if_pos (by omega)]; rfl
    have hw : nI s = nI (zwh s) := by unfold zwh; rw [if_pos (by omega)]
    have hb1 : ∀ m, zbest S W s n = some m → m < 1000 := fun m hm => by
      have := (zam_ok hm).1; have := aC.1; omega
    have hb2 : ∀ m, zwors S W s n = some m → m < 1000 := fun m hm => by
      have := (zam_ok hm).1; have := aC.1; omega
    rw [e1, e2]
    simp only [z10, if_true, if_false]
    refine zAg.ite (fun _ => ?_) (fun _ => zAg.ite (fun _ => ?_) (fun _ => zAg.ite (fun _ => ?_) (fun _ => zAg.ite (fun _ => ?_) (fun _ => zAg.ite (fun _ => ?_) (fun _ => zAg.ite (fun _ => ?_) (fun _ => zAg.rf))))))
    · rw [zat (by omega) (by omega)]
      simp (disch := omega) only [zpl1, zpl2, zpl3, zob1, zob2, zob3, zlt, zeq, znn, zn9, zat, zput, zaddc, zag, zas, zl2, zl3, zl4, zl5, zl7, zl8, zl10, zl11, zl12, zl16, zl20, zl22, zl23, zl31, zl32, zl60, zl64, zl80, zl100, zl121, zl181, zl241, zl249, zl261, zl273, zl285, zl297, zl309, zl321, zl322, zl323, zl324, zl325, zl326, zl327, zl500, zl61, zl328, zl329, zl657, zl986, nI_1, z1I, zadd, if_true, if_false, aG.1]
      exact zAg.rf
    · rw [zNum aC (by omega), zMany aM (by omega) (s := s) (by omega) hz hw]; exact zAg.rf
    · rw [zBrokenAt aC (by omega) (by omega), zBrk aM (by omega) (s := s) (by omega) hz hw]; exact zAg.rf
    · rw [zBest aC (by omega) (by omega), zBestM aM (by omega) (by omega), zob1, zob1, zTold hb1]; exact zAg.rf
    · rw [zWorst aC (by omega) (by omega), zWorM aM (by omega) (by omega), zob1, zob1, zTold hb2]; exact zAg.rf
    · rw [zMean aC (by omega) (by omega), zMeanM aM (by omega) (by omega)]; exact zAg.rf
  · rw [e1, e2]; exact zAg.rf
theorem zz_person {Z : Nat} {c : CV} {q : Nat → Int32} (hZ : 5000 < Z) (a : zRT c q) (p1 p2 : Int32) : zAg (f_X6_person Z c p1 p2) (f_X7_person q p1 p2) := by
  obtain ⟨n, S, W, H, T, C, P, O, h, r, hh, aC, aM, aL, aP, aG⟩ := a
  unfold f_X6_person f_X7_person f_X7_isPerson
  rcases zr11 p1 with ⟨k, hk, rfl, e1, e2⟩ | ⟨e1, e2⟩
  · rw [e1, e2]
    simp only [z10, if_true, if_false]
    rw [zHand aC aP (by omega) (by omega), zob1]
    have hk' : k < 12 := by omega
    have a1 := aP.2.1 k hk'
    have a2 := aP.2.2.1 k hk'
    have a3 := aP.2.2.2.1 k hk'
    have a4 := aP.2.2.2.2.1 k hk'
    have a5 := aP.2.2.2.2.2 k hk'
    rcases zr5 p2 with ⟨j, hj, rfl, f1, f2⟩ | ⟨f1, f2⟩
    · rw [f2]
      simp only [z10, if_false]
      have hag : aget 986 q (249 + 12 * nI j + nI k) = some (q (249 + 12 * j + k)) := by
        rw [show (12 : Int32) = nI 12 from rfl, zmul, show (249 : Int32) = nI 249 from rfl, zadd, zadd, zag (by omega) (by omega)]
      rw [hag, zob1]
      have hj' : j = 0 ∨ j = 1 ∨ j = 2 ∨ j = 3 ∨ j = 4 ∨ j = 5 := by omega
      rcases hj' with rfl | rfl | rfl | rfl | rfl | rfl
      · rw [if_pos (by decide), zat (by omega) (by omega), a4.1, show 249 + 12 * 0 + k = 249 + k by omega, a4.2.1, zToldN (by omega)]; exact zAg.rf
      · rw [if_neg (by decide), if_pos (by decide), show 249 + 12 * 1 + k = 261 + k by omega, a1, zTold (fun m hm => by have := ((aP.1 k hk' m).1 hm).1; have := aC.1; omega)]; exact zAg.rf
      · rw [if_neg (by decide), if_neg (by decide), if_pos (by decide), zat (by omega) (by omega), a2.1, show 249 + 12 * 2 + k = 273 + k by omega, a2.2.1, zToldN (by omega)]; exact zAg.rf
      · rw [if_neg (by decide), if_neg (by decide), if_neg (by decide), if_pos (by decide), show 249 + 12 * 3 + k = 285 + k by omega, a3]
        cases hH : H k with
        | none => exact zAg.rf
        | some u =>
          have hu := (aP.1 k hk' u).1 hH
          have := aC.1
          have hw := aC.2.2.2.1 u
          simp only [zev, zbk]
          rw [zToldN (by have := zid_le (32 ≤ W u); omega)]
          simp (disch := omega) only [zpl1, zpl2, zpl3, zob1, zob2, zob3, zlt, zeq, znn, zn9, zat, zput, zaddc, zag, zas, zl2, zl3, zl4, zl5, zl7, zl8, zl10, zl11, zl12, zl16, zl20, zl22, zl23, zl31, zl32, zl60, zl64, zl80, zl100, zl121, zl181, zl241, zl249, zl261, zl273, zl285, zl297, zl309, zl321, zl322, zl323, zl324, zl325, zl326, zl327, zl500, zl61, zl328, zl329, zl657, zl986, nI_1, z1I, zadd, if_true, if_false, ziB (by omega : u < 60) (aC.2.2.2.2.2.2.1 u (by omega)) hw]
          by_cases hc : W u < 32
          · simp [hc, zid, Nat.not_le.mpr hc]; exact zAg.rf
          · simp [hc, zid, Nat.not_lt.mp hc]; exact zAg.rf
      · rw [if_neg (by decide), if_neg (by decide), if_neg (by decide), if_neg (by decide), if_pos (by decide), zat (by omega) (by omega), a5.1, show 249 + 12 * 4 + k = 297 + k by omega, a5.2.1, zToldN (by omega)]; exact zAg.rf
      · rw [if_neg (by decide), if_neg (by decide), if_neg (by decide), if_neg (by decide), if_neg (by decide), if_pos (by decide), zat (by omega) (by omega), a4.2.2.1, show 249 + 12 * 5 + k = 309 + k by omega, a4.2.2.2.1, zToldN (by omega)]; exact zAg.rf
    · rw [f2, if_pos rfl]
      rw [if_neg (fun e => by rw [e] at f2; revert f2; decide), if_neg (fun e => by rw [e] at f2; revert f2; decide), if_neg (fun e => by rw [e] at f2; revert f2; decide), if_neg (fun e => by rw [e] at f2; revert f2; decide), if_neg (fun e => by rw [e] at f2; revert f2; decide), if_neg (fun e => by rw [e] at f2; revert f2; decide)]
      exact zAg.rf
  · rw [e1, e2]; exact zAg.rf
theorem zz_umbrella {c : CV} {q : Nat → Int32} (a : zRT c q) (p1 p2 : Int32) : f_X7_umbrella q p1 p2 = some (f_X6_umbrella c p1 p2) := by
  obtain ⟨n, S, W, H, T, C, P, O, h, r, hh, aC, aM, aL, aP, aG⟩ := a
  unfold f_X6_umbrella f_X7_umbrella
  obtain ⟨h0, hnum, h2, h3, h4, h5, h6, h7⟩ := id aC
  rw [show aget 986 q 0 = some (q 0) from rfl, zob1, aM.2.1, hnum]
  have hr : (∃ j, j < n ∧ p1 = nI j ∧ f_X6_outside p1 0 (nI n - 1) = 0 ∧ f_X7_in p1 0 (nI n - 1) = 1) ∨ (f_X6_outside p1 0 (nI n - 1) = 1 ∧ f_X7_in p1 0 (nI n - 1) = 0) := by
    rcases Nat.eq_zero_or_pos n with rfl | hp
    · right
      unfold f_X6_outside f_X7_in
      rw [show nI 0 - 1 = -1 from rfl]
      by_cases h1 : p1 < 0
      · simp [h1]
      · have : (-1 : Int32) < p1 := by
          rw [Int32.lt_iff_toInt_lt] at h1 ⊢
          have e1 : (-1 : Int32).toInt = -1 := rfl
          have e0 : (0 : Int32).toInt = 0 := rfl
          omega
        simp [h1, this]
    · obtain ⟨m, rfl⟩ : ∃ m, n = m + 1 := ⟨n - 1, by omega⟩
      rw [nI_pred]
      rcases zrng m (by omega) p1 with ⟨j, hj, x⟩ | x
      · exact Or.inl ⟨j, by omega, x⟩
      · exact Or.inr x
  rcases hr with ⟨u, hu, rfl, e1, e2⟩ | ⟨e1, e2⟩
  · rw [e1, e2]
    have hS := h2 u hu
    have hp := zpl_le (S u)
    simp only [z10, if_true, if_false]
    by_cases w0 : p2 = 0
    · simp only [w0, if_true]
      simp (disch := omega) only [zpl1, zpl2, zpl3, zob1, zob2, zob3, zlt, zeq, znn, zn9, zat, zput, zaddc, zag, zas, zl2, zl3, zl4, zl5, zl7, zl8, zl10, zl11, zl12, zl16, zl20, zl22, zl23, zl31, zl32, zl60, zl64, zl80, zl100, zl121, zl181, zl241, zl249, zl261, zl273, zl285, zl297, zl309, zl321, zl322, zl323, zl324, zl325, zl326, zl327, zl500, zl61, zl328, zl329, zl657, zl986, nI_1, z1I, zadd, if_true, if_false, h5, zkind, aM.2.2.2.2.1]
    simp only [w0, if_false]
    by_cases w1 : p2 = 1
    · simp only [w1, if_true]
      simp (disch := omega) only [zpl1, zpl2, zpl3, zob1, zob2, zob3, zlt, zeq, znn, zn9, zat, zput, zaddc, zag, zas, zl2, zl3, zl4, zl5, zl7, zl8, zl10, zl11, zl12, zl16, zl20, zl22, zl23, zl31, zl32, zl60, zl64, zl80, zl100, zl121, zl181, zl241, zl249, zl261, zl273, zl285, zl297, zl309, zl321, zl322, zl323, zl324, zl325, zl326, zl327, zl500, zl61, zl328, zl329, zl657, zl986, nI_1, z1I, zadd, if_true, if_false, h5, aM.2.2.2.2.1]
      by_cases hs : S u < 22
      · have := zpl_lt.2 hs
        rw [if_neg (by omega), zown hs, aM.2.2.2.2.2.1 u hu hs]
      · have : ¬ zpl (S u) ≤ 2 := fun e => hs (zpl_lt.1 e)
        rw [if_pos (by omega), zown2 (by omega)]
    simp only [w1, if_false]
    by_cases w2 : p2 = 2
    · simp only [w2, if_true]
      simp (disch := omega) only [zpl1, zpl2, zpl3, zob1, zob2, zob3, zlt, zeq, znn, zn9, zat, zput, zaddc, zag, zas, zl2, zl3, zl4, zl5, zl7, zl8, zl10, zl11, zl12, zl16, zl20, zl22, zl23, zl31, zl32, zl60, zl64, zl80, zl100, zl121, zl181, zl241, zl249, zl261, zl273, zl285, zl297, zl309, zl321, zl322, zl323, zl324, zl325, zl326, zl327, zl500, zl61, zl328, zl329, zl657, zl986, nI_1, z1I, zadd, if_true, if_false, h6, aM.2.2.2.2.2.2]
    simp only [w2, if_false]
    by_cases w3 : p2 = 3
    · simp only [w3, if_true]
      rw [ziBm aM hu, zob1, ziB (by omega) (h6 u (by omega)) (h3 u)]
      by_cases hc : W u < 32 <;> simp [hc]
    simp only [w3, if_false]
    by_cases w4 : p2 = 4
    · simp only [w4, if_true]
      simp (disch := omega) only [zpl1, zpl2, zpl3, zob1, zob2, zob3, zlt, zeq, znn, zn9, zat, zput, zaddc, zag, zas, zl2, zl3, zl4, zl5, zl7, zl8, zl10, zl11, zl12, zl16, zl20, zl22, zl23, zl31, zl32, zl60, zl64, zl80, zl100, zl121, zl181, zl241, zl249, zl261, zl273, zl285, zl297, zl309, zl321, zl322, zl323, zl324, zl325, zl326, zl327, zl500, zl61, zl328, zl329, zl657, zl986, nI_1, z1I, zadd, if_true, if_false, aL.1]
    simp only [w4, if_false]
  · rw [e1, e2]; rfl
theorem zNth {Z n : Nat} {S W : Nat → Nat} {sp we ta q : Nat → Int32} {num p2 : Int32} {v : Nat} (aC : zRC n S W sp we ta num) (aM : zRM n S W q) (hv : v < 2) (h2 : ¬ p2 < 0) : ∀ k i b F, n - i = k → i ≤ n → n - i < F → b ≤ i → (∃ j, j < 2 ^ 31 ∧ p2 = nI j ∧ b ≤ j ∧ zAg (f_X5_nthAt_L5 sp num (nI (20 + v)) p2 F (nI b) (nI i)) (f_X7_inVan_L20 q (nI v) F (nI (j - b)) (nI i))) ∨ (∃ j, j < 2 ^ 31 ∧ p2 = nI j ∧ j < b) := by
  obtain ⟨j, hj, rfl⟩ := nI_of h2
  obtain ⟨h0, hnum, hS2, h3, h4, h5, h6, h7⟩ := id aC
  subst hnum
  intro k
  induction k with
  | zero =>
    intro i b F hk hi hF hb
    obtain ⟨F, rfl⟩ : ∃ G, F = G + 1 := ⟨F - 1, by omega⟩
    have : i = n := by omega
    subst this
    rcases Nat.lt_or_ge j b with hjb | hjb
    · exact Or.inr ⟨j, hj, rfl, hjb⟩
    refine Or.inl ⟨j, hj, rfl, hjb, ?_⟩
    rw [f_X5_nthAt_L5, f_X7_inVan_L20, show aget 986 q 0 = some (q 0) from rfl]
    simp (disch := omega) only [zpl1, zpl2, zpl3, zob1, zob2, zob3, zlt, zeq, znn, zn9, zat, zput, zaddc, zag, zas, zl2, zl3, zl4, zl5, zl7, zl8, zl10, zl11, zl12, zl16, zl20, zl22, zl23, zl31, zl32, zl60, zl64, zl80, zl100, zl121, zl181, zl241, zl249, zl261, zl273, zl285, zl297, zl309, zl321, zl322, zl323, zl324, zl325, zl326, zl327, zl500, zl61, zl328, zl329, zl657, zl986, nI_1, z1I, zadd, if_true, if_false, aM.2.1, Nat.lt_irrefl]
    exact zAg.rf
  | succ k ih =>
    intro i b F hk hi hF hb
    obtain ⟨F, rfl⟩ : ∃ G, F = G + 1 := ⟨F - 1, by omega⟩
    rcases Nat.lt_or_ge j b with hjb | hjb
    · exact Or.inr ⟨j, hj, rfl, hjb⟩
    refine Or.inl ⟨j, hj, rfl, hjb, ?_⟩
    have hin : i < n := by omega
    have hS := hS2 i hin
    have e0 : (nI b = nI j) = (b = j) := propext (nI_eq (by omega) hj)
    have e1 : (nI (j - b) = 0) = (b = j) := propext ⟨fun e => by have := (nI_eq (b := 0) (by omega) (by omega)).1 e; omega, fun e => by subst e; rw [Nat.sub_self]; rfl⟩
    rw [f_X5_nthAt_L5, f_X7_inVan_L20, show aget 986 q 0 = some (q 0) from rfl]
    simp (disch := omega) only [zpl1, zpl2, zpl3, zob1, zob2, zob3, zlt, zeq, znn, zn9, zat, zput, zaddc, zag, zas, zl2, zl3, zl4, zl5, zl7, zl8, zl10, zl11, zl12, zl16, zl20, zl22, zl23, zl31, zl32, zl60, zl64, zl80, zl100, zl121, zl181, zl241, zl249, zl261, zl273, zl285, zl297, zl309, zl321, zl322, zl323, zl324, zl325, zl326, zl327, zl500, zl61, zl328, zl329, zl657, zl986, nI_1, z1I, zadd, if_true, if_false, aM.2.1, hin, h5, e0, e1]
    have hv1 : nI 2 = nI (zpl (20 + v)) := by
      have : v = 0 ∨ v = 1 := by omega
      rcases this with rfl | rfl <;> rfl
    have hv2 : nI v = nI (zwh (20 + v)) := by
      have : v = 0 ∨ v = 1 := by omega
      rcases this with rfl | rfl <;> rfl
    rw [zIsAt aM hin (s := 20 + v) (by omega) hv1 hv2, zob1]
    by_cases hc : S i = 20 + v
    · simp only [hc, if_true, z10, if_false]
      by_cases hd : b = j
      · simp only [hd, if_true]; exact zAg.rf
      · simp only [hd, if_false]
        rcases ih (i + 1) (b + 1) F (by omega) (by omega) (by omega) (by omega) with ⟨j', hj', e, hb', hag⟩ | ⟨j', hj', e, hb'⟩
        · have := (nI_eq hj hj').1 e
          subst this
          rw [show nI (j - b) + -1 = nI (j - (b + 1)) by
            obtain ⟨y, hy⟩ : ∃ y, j - b = y + 1 := ⟨j - b - 1, by omega⟩
            rw [hy, show j - (b + 1) = y by omega, nI_succ, Int32.add_assoc]; simp]
          exact hag
        · have := (nI_eq hj hj').1 e; omega
    · simp only [hc, if_true, if_false]
      rcases ih (i + 1) b F (by omega) (by omega) (by omega) (by omega) with ⟨j', hj', e, hb', hag⟩ | ⟨j', hj', e, hb'⟩
      · have := (nI_eq hj hj').1 e
        subst this
        exact hag
      · have := (nI_eq hj hj').1 e; omega
theorem zz_inVan {Z : Nat} {c : CV} {q : Nat → Int32} (hZ : 5000 < Z) (a : zRT c q) (p1 p2 : Int32) : zAg (f_X6_inVan Z c p1 p2) (f_X7_inVan Z q p1 p2) := by
  obtain ⟨n, S, W, H, T, C, P, O, h, r, hh, aC, aM, aL, aP, aG⟩ := a
  unfold f_X6_inVan f_X7_inVan
  rcases zr1 p1 with ⟨v, hv, rfl, e1, e2⟩ | ⟨e1, e2⟩
  · rw [e1, e2]
    simp only [z10, if_true, if_false]
    refine zAg.ite (fun _ => zAg.rf) (fun h2 => ?_)
    have := aC.1
    rcases zNth (Z := Z) aC aM (v := v) (by omega) h2 n 0 0 Z (by omega) (by omega) (by omega) (by omega) with ⟨j, hj, e, hb, r, ha, hb2⟩ | ⟨j, hj, e, hb⟩
    · unfold f_X5_nthAt
      rw [show (20 : Int32) = nI 20 from rfl, zadd]
      rw [show f_X5_nthAt_L5 c.1 c.2.2.2.2.1 (nI (20 + v)) p2 Z 0 0 = some r from ha, zob1]
      rw [show f_X7_inVan_L20 q (nI v) Z p2 0 = some r by rw [e]; exact hb2]
      exact zAg.rf
    · omega
  · rw [e1, e2]; exact zAg.rf
theorem zz_feeIn {Z : Nat} {c : CV} {q : Nat → Int32} (hZ : 5000 < Z) (a : zRT c q) (p1 p2 p3 : Int32) : zAg (f_X6_feeIn Z c p1 p2 p3) (f_X7_feeIn Z q p1 p2 p3) := by
  obtain ⟨n, S, W, H, T, C, P, O, h, r, hh, aC, aM, aL, aP, aG⟩ := a
  unfold f_X6_feeIn f_X7_feeIn f_X7_isPerson
  rcases zr11 p1 with ⟨k, hk, rfl, e1, e2⟩ | ⟨e1, e2⟩
  · rcases zr50 p2 with ⟨m, hm, rfl, f1, f2⟩ | ⟨f1, f2⟩
    · rcases zr9 p3 with ⟨rn, hrn, rfl, g1, g2⟩ | ⟨g1, g2⟩
      · rw [e1, e2, f1, f2, g1, g2]
        simp only [z10, if_true, if_false]
        have hk' : k < 12 := by omega
        have a1 := aP.2.1 k hk'
        have a2 := aP.2.2.1 k hk'
        have a3 := aP.2.2.2.1 k hk'
        obtain ⟨g0, g1, g2, g3, g4, g5, g6, g7, g8, g9, g10, g11⟩ := aG
        rw [zHas aC aP hk']
        simp (disch := omega) only [zpl1, zpl2, zpl3, zob1, zob2, zob3, zlt, zeq, znn, zn9, zat, zput, zaddc, zag, zas, zl2, zl3, zl4, zl5, zl7, zl8, zl10, zl11, zl12, zl16, zl20, zl22, zl23, zl31, zl32, zl60, zl64, zl80, zl100, zl121, zl181, zl241, zl249, zl261, zl273, zl285, zl297, zl309, zl321, zl322, zl323, zl324, zl325, zl326, zl327, zl500, zl61, zl328, zl329, zl657, zl986, nI_1, z1I, zadd, if_true, if_false, a1]
        cases hH : H k with
        | none => exact zAg.rf
        | some u =>
          have hu := (aP.1 k hk' u).1 hH
          have := aC.1
          have hw := aC.2.2.2.1 u
          rw [g8, zFee aC aP (by omega) hk' hH g10 (by omega) hm hrn, zob1]
          simp only [reduceCtorEq, if_false, zev, z10]
          rw [hH] at a3
          have hl := zit_le (f := fun x => zwo x rn 0) hw (fun x => zwo_le x rn 0) m
          have hge := zit_ge (f := fun x => zwo x rn 0) hw (fun x => zwo_le x rn 0) (fun x hx => zwo_ge rn 0 hx) m
          have e2' : (if rn < 2 then (0 : Int32) else nI m) = nI (if rn < 2 then 0 else m) := zite 0 m
          have h650 : (if rn < 2 then 0 else m) ≤ 50 := by split <;> omega
          have hT := a2.2.2.1
          simp (disch := omega) only [zpl1, zpl2, zpl3, zob1, zob2, zob3, zlt, zeq, znn, zn9, zat, zput, zaddc, zag, zas, zl2, zl3, zl4, zl5, zl7, zl8, zl10, zl11, zl12, zl16, zl20, zl22, zl23, zl31, zl32, zl60, zl64, zl80, zl100, zl121, zl181, zl241, zl249, zl261, zl273, zl285, zl297, zl309, zl321, zl322, zl323, zl324, zl325, zl326, zl327, zl500, zl61, zl328, zl329, zl657, zl986, nI_1, z1I, zadd, if_true, if_false, aM.2.2.2.2.2.2 u hu.1, zFeeLM (Z := Z) (w := W u) (r := rn) (m := m) (by omega) hw hrn hm, a2.2.1, e2', a3, zbk]
          generalize zit (fun x => zwo x rn 0) m (W u) = wr at hl hge ⊢
          have hx : ob1 (if (if (if W u < 32 then (0 : Int32) else 1) = 0 then (if wr < 32 then (0 : Int32) else 1) else 0) = 0 then (if nI (zid (32 ≤ W u)) = 1 then some 1 else some 0) else some (1 : Int32)) (fun x26 => ob1 (f_X7_fee q (nI (T k + (if rn < 2 then 0 else m))) x26) (fun b28 => some b28)) = some (nI (zfee r (T k + (if rn < 2 then 0 else m)) wr)) := by
            have hfl : (if (if (if W u < 32 then (0 : Int32) else 1) = 0 then (if wr < 32 then (0 : Int32) else 1) else 0) = 0 then (if nI (zid (32 ≤ W u)) = 1 then some 1 else some 0) else some (1 : Int32)) = some (if wr < 32 then 0 else 1) := by
              rcases Nat.lt_or_ge (W u) 32 with hc | hc
              · have e : (nI (zid (32 ≤ W u)) = 1) = False := by simp [zid, Nat.not_le.mpr hc, nI_0]
                by_cases hd : wr < 32 <;> simp [hc, hd, e]
              · have e : (nI (zid (32 ≤ W u)) = 1) = True := by simp [zid, hc]; rfl
                have hd : ¬ wr < 32 := by omega
                simp [Nat.not_lt.mpr hc, hd, e]
            rw [hfl, zob1, zFeeM g9 rfl g10 (by omega), zob1]
          exact ⟨_, rfl, hx⟩
      · rw [e1, e2, f1, f2, g1, g2]; exact zAg.rf
    · rw [e1, e2, f1, f2]; exact zAg.rf
  · rw [e1, e2]; exact zAg.rf
