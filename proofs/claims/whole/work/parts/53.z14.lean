theorem zz_borrowR {Z : Nat} {c : CV} {q : Nat → Int32} (hZ : 5000 < Z) (a : zRT c q) (p1 p2 : Int32) : ∃ e, f_X0_lendingError Z c.1 c.2.1 c.2.2.2.1 c.2.2.2.2.1 c.2.2.2.2.2.2.1 p1 p2 = some e ∧ f_X7_whyBorrow Z q p1 p2 = some e ∧ (e = 0 ∨ e < 0) ∧ (e = 0 → ∃ r sp' le' ta' pu' house' loans' q', f_X0_lend Z c.1 c.2.1 c.2.2.1 c.2.2.2.1 c.2.2.2.2.1 c.2.2.2.2.2.2.1 c.2.2.2.2.2.2.2.2.2.2.2.1 c.2.2.2.2.2.2.2.2.2.2.2.2.2.1 p1 p2 = some (r, sp', le', ta', pu', house', loans') ∧ f_X7_borrows Z q p1 p2 = some (r, q') ∧ ¬ r < 0 ∧ zRT (sp', c.2.1, le', ta', c.2.2.2.2.1, c.2.2.2.2.2.1, pu', c.2.2.2.2.2.2.2.1, c.2.2.2.2.2.2.2.2.1, c.2.2.2.2.2.2.2.2.2.1, c.2.2.2.2.2.2.2.2.2.2.1, house', c.2.2.2.2.2.2.2.2.2.2.2.2.1, loans', c.2.2.2.2.2.2.2.2.2.2.2.2.2.2.1, c.2.2.2.2.2.2.2.2.2.2.2.2.2.2.2) q' ∧ ∀ i, 328 ≤ i → q' i = q i) := by
  obtain ⟨n, S, W, H, T, C, P, O, h, r, hh, a⟩ := a
  have aC := a.1
  have aM := a.2.1
  have aP := a.2.2.2.1
  unfold f_X0_lendingError f_X7_whyBorrow f_X7_isPerson f_X7_isStand
  have hn := aC.1
  rcases zr11 p1 with ⟨k, hk, rfl, e1, e2⟩ | ⟨e1, e2⟩
  · rcases zr7 p2 with ⟨s, hs, rfl, f1, f2⟩ | ⟨f1, f2⟩
    · simp only [e1, e2, f1, f2, if_true, if_false, z10]
      rw [zWould aC aP (by omega), zCanB aP (by omega) hn, zBest aC (by omega) (by omega), zBestM aM (by omega) (by omega)]
      simp only [zob1]
      by_cases hc : H k = none ∧ 10 ≤ C k
      · simp only [hc, and_self, if_true, z10, if_false]
        cases hb : zbest S W s n with
        | none => exact ⟨-2, rfl, rfl, Or.inr (by decide), fun e => absurd e (by decide)⟩
        | some u =>
          have hu := (zam_ok hb).1
          simp only [zev]
          simp (disch := omega) only [zpl1, zpl2, zpl3, zob1, zob2, zob3, zlt, zeq, znn, zn9, zat, zput, zaddc, zag, zas, zl2, zl3, zl4, zl5, zl7, zl8, zl10, zl11, zl12, zl16, zl20, zl22, zl23, zl31, zl32, zl60, zl64, zl80, zl100, zl121, zl181, zl241, zl249, zl261, zl273, zl285, zl297, zl309, zl321, zl322, zl323, zl324, zl325, zl326, zl327, zl500, zl61, zl328, zl329, zl657, zl986, nI_1, z1I, zadd, if_true, if_false, z10]
          refine ⟨0, rfl, rfl, Or.inl rfl, fun _ => ?_⟩
          obtain ⟨b1, b2, b3, b4, b5⟩ := zBor a (Z := Z) (k := k) (s := s) (u := u) (by omega) (by omega) hc.1 hc.2 (by omega) hb
          have b0 : f_X0_lend Z c.1 c.2.1 c.2.2.1 c.2.2.2.1 c.2.2.2.2.1 c.2.2.2.2.2.2.1 c.2.2.2.2.2.2.2.2.2.2.2.1 c.2.2.2.2.2.2.2.2.2.2.2.2.2.1 (nI k) (nI s) = some (nI u, (f_X5_move c.1 c.2.2.2.1 (nI u) (nI (8 + k))).1, upd c.2.2.1 u (c.2.2.1 u + 1), (f_X5_move c.1 c.2.2.2.1 (nI u) (nI (8 + k))).2, upd c.2.2.2.2.2.2.1 k (nI (C k - 10)), c.2.2.2.2.2.2.2.2.2.2.2.1 + 10, c.2.2.2.2.2.2.2.2.2.2.2.2.2.1 + 1) := by
            unfold f_X0_lend
            rw [zBest aC (by omega) (by omega), hb, zob1]
            simp only [zev]
            rw [b1]
            rfl
          exact ⟨nI u, _, _, _, _, _, _, _, b0, b2, by rw [znn (by omega)]; simp, ⟨n, _, _, _, _, _, _, _, h, r, hh, b3⟩, b4⟩
      · simp only [hc, if_false, if_true]
        exact ⟨-2, rfl, rfl, Or.inr (by decide), fun e => absurd e (by decide)⟩
    · simp only [e1, e2, f1, f2, if_true, if_false, z10]
      exact ⟨-1, rfl, rfl, Or.inr (by decide), fun e => absurd e (by decide)⟩
  · simp only [e1, e2, if_true, if_false, z10]
    exact ⟨-1, rfl, rfl, Or.inr (by decide), fun e => absurd e (by decide)⟩
theorem zz_borrow {Z : Nat} {c : CV} {q : Nat → Int32} (hZ : 5000 < Z) (a : zRT c q) (p1 p2 : Int32) : zOp Z c q (fun s0 s1 k0 k1 g nx sz => f_X6_borrow Z c s0 s1 k0 k1 g nx sz p1 p2) (fun sv st => f_X7_borrow Z q sv st p1 p2) := by
  obtain ⟨e, h1, h2, h3, h4⟩ := zz_borrowR hZ a p1 p2
  unfold f_X6_borrow f_X7_borrow
  simp only [h1, h2, zob1]
  rcases h3 with rfl | h3
  · obtain ⟨r, sp', le', ta', pu', house', loans', q', l1, l2, l3, l4, l5⟩ := h4 rfl
    right
    simp only [l1, l2, if_true, zob7, zob2, show ((0 : Int32) < 0) = False by simp, if_false]
    exact ⟨r, _, q', l4, l5, fun _ _ _ _ _ _ _ => rfl, fun sv st sv' st' hs => by rw [show f_X7_save Z q sv st = _ from hs, zob2]⟩
  · have h0 : ¬ e = 0 := fun x => by rw [x] at h3; exact absurd h3 (by decide)
    simp only [h0, h3, if_true, if_false]
    exact zErr e (fun _ _ _ _ _ _ _ => rfl) (fun _ _ => rfl)
theorem zz_bringR {Z : Nat} {c : CV} {q : Nat → Int32} (hZ : 5000 < Z) (a : zRT c q) (p1 p2 : Int32) : ∃ e, f_X0_returningError c.2.2.2.1 c.2.2.2.2.2.1 p1 p2 = e ∧ f_X7_whyBring Z q p1 p2 = some e ∧ (e = 0 ∨ e < 0) ∧ (e = 0 → ∃ r sp' ta' pu' sh' ho' pa' house' q', f_X0_takeBack Z c.1 c.2.1 c.2.2.2.1 c.2.2.2.2.1 c.2.2.2.2.2.2.1 c.2.2.2.2.2.2.2.1 c.2.2.2.2.2.2.2.2.1 c.2.2.2.2.2.2.2.2.2.1 c.2.2.2.2.2.2.2.2.2.2.2.1 c.2.2.2.2.2.2.2.2.2.2.2.2.2.2.2 p1 p2 = some (r, sp', ta', pu', sh', ho', pa', house') ∧ f_X7_brings q p1 p2 = some (r, q') ∧ ¬ r < 0 ∧ zRT (sp', c.2.1, c.2.2.1, ta', c.2.2.2.2.1, c.2.2.2.2.2.1, pu', sh', ho', pa', c.2.2.2.2.2.2.2.2.2.2.1, house', c.2.2.2.2.2.2.2.2.2.2.2.2.1, c.2.2.2.2.2.2.2.2.2.2.2.2.2.1, c.2.2.2.2.2.2.2.2.2.2.2.2.2.2.1, c.2.2.2.2.2.2.2.2.2.2.2.2.2.2.2) q' ∧ ∀ i, 328 ≤ i → q' i = q i) := by
  obtain ⟨n, S, W, H, T, C, P, O, h, r, hh, a⟩ := a
  have aC := a.1
  have aM := a.2.1
  have aP := a.2.2.2.1
  have aG := a.2.2.2.2
  unfold f_X0_returningError f_X7_whyBring f_X7_isPerson f_X7_isStand f_X0_freeAt
  have hn := aC.1
  rcases zr11 p1 with ⟨k, hk, rfl, e1, e2⟩ | ⟨e1, e2⟩
  · rcases zr7 p2 with ⟨s, hs, rfl, f1, f2⟩ | ⟨f1, f2⟩
    · have hk' : k < 12 := by omega
      have a1 := aP.2.1 k hk'
      simp only [e1, e2, f1, f2, if_true, if_false, z10]
      rw [zHas aC aP (by omega), zRoom aM (by omega) (by omega), aG.1 s (by omega), zat (by omega) (by omega), zNum aC (by omega)]
      simp (disch := omega) only [zpl1, zpl2, zpl3, zob1, zob2, zob3, zlt, zeq, znn, zn9, zat, zput, zaddc, zag, zas, zl2, zl3, zl4, zl5, zl7, zl8, zl10, zl11, zl12, zl16, zl20, zl22, zl23, zl31, zl32, zl60, zl64, zl80, zl100, zl121, zl181, zl241, zl249, zl261, zl273, zl285, zl297, zl309, zl321, zl322, zl323, zl324, zl325, zl326, zl327, zl500, zl61, zl328, zl329, zl657, zl986, nI_1, z1I, zadd, if_true, if_false, a1]
      cases hH : H k with
      | none =>
        simp only [zev, if_true]
        exact ⟨-2, rfl, rfl, Or.inr (by decide), fun e => absurd e (by decide)⟩
      | some u =>
        have hu := (aP.1 k hk' u).1 hH
        simp only [zev, reduceCtorEq, if_false, z10]
        simp (disch := omega) only [zpl1, zpl2, zpl3, zob1, zob2, zob3, zlt, zeq, znn, zn9, zat, zput, zaddc, zag, zas, zl2, zl3, zl4, zl5, zl7, zl8, zl10, zl11, zl12, zl16, zl20, zl22, zl23, zl31, zl32, zl60, zl64, zl80, zl100, zl121, zl181, zl241, zl249, zl261, zl273, zl285, zl297, zl309, zl321, zl322, zl323, zl324, zl325, zl326, zl327, zl500, zl61, zl328, zl329, zl657, zl986, nI_1, z1I, zadd, if_true, if_false]
        by_cases hf : 0 < c.2.2.2.2.2.1 s - nI (zc S s n)
        · simp only [hf, if_true]
          refine ⟨0, rfl, rfl, Or.inl rfl, fun _ => ?_⟩
          obtain ⟨f, hf10, b1, b2, b3, b4⟩ := zBri a (Z := Z) (k := k) (s := s) (u := u) (by omega) hk' hH (by omega)
          exact ⟨nI f, _, _, _, _, _, _, _, _, b1, b2, by rw [znn (by omega)]; simp, ⟨n, _, _, _, _, _, _, _, h, r, hh, b3⟩, b4⟩
        · simp only [hf, if_false]
          exact ⟨-3, rfl, rfl, Or.inr (by decide), fun e => absurd e (by decide)⟩
    · simp only [e1, e2, f1, f2, if_true, if_false, z10]
      exact ⟨-1, rfl, rfl, Or.inr (by decide), fun e => absurd e (by decide)⟩
  · simp only [e1, e2, if_true, if_false, z10]
    exact ⟨-1, rfl, rfl, Or.inr (by decide), fun e => absurd e (by decide)⟩
theorem zz_bringBack {Z : Nat} {c : CV} {q : Nat → Int32} (hZ : 5000 < Z) (a : zRT c q) (p1 p2 : Int32) : zOp Z c q (fun s0 s1 k0 k1 g nx sz => f_X6_bringBack Z c s0 s1 k0 k1 g nx sz p1 p2) (fun sv st => f_X7_bringBack Z q sv st p1 p2) := by
  obtain ⟨e, h1, h2, h3, h4⟩ := zz_bringR hZ a p1 p2
  unfold f_X6_bringBack f_X7_bringBack
  simp only [h1, h2, zob1]
  rcases h3 with rfl | h3
  · obtain ⟨r, sp', ta', pu', sh', ho', pa', house', q', l1, l2, l3, l4, l5⟩ := h4 rfl
    right
    simp only [l1, l2, if_true, zob8, zob2, show ((0 : Int32) < 0) = False by simp, if_false]
    exact ⟨r, _, q', l4, l5, fun _ _ _ _ _ _ _ => rfl, fun sv st sv' st' hs => by rw [show f_X7_save Z q sv st = _ from hs, zob2]⟩
  · have h0 : ¬ e = 0 := fun x => by rw [x] at h3; exact absurd h3 (by decide)
    simp only [h0, h3, if_true, if_false]
    exact zErr e (fun _ _ _ _ _ _ _ => rfl) (fun _ _ => rfl)
