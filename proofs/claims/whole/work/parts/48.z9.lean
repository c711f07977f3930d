theorem zz_set {Z : Nat} {c : CV} {q : Nat → Int32} (hZ : 5000 < Z) (a : zRT c q) (p1 p2 : Int32) : zOp Z c q (fun s0 s1 k0 k1 g nx sz => some (f_X6_set c s0 s1 k0 k1 g nx sz p1 p2)) (fun sv st => f_X7_set Z q sv st p1 p2) := by
  obtain ⟨n, S, W, H, T, C, P, O, h, r, hh, aC, aM, aL, aP, aG⟩ := a
  unfold f_X6_set f_X7_set f_X0_settingError
  have hn := aC.1
  rcases zr8 p1 with ⟨s, hs, rfl, -, e2⟩ | ⟨-, e2⟩
  · rcases Nat.lt_or_ge s 8 with h8 | h8
    · have e1 : f_X6_outside (nI s) 0 7 = 0 := by
        have : ∀ s, s < 8 → f_X6_outside (nI s) 0 7 = 0 := by decide
        exact this s h8
      have q8 : (nI s = 8) = False := by
        rw [show (8 : Int32) = nI 8 from rfl, zeq (by omega) (by omega)]; simp; omega
      have q8' : (nI s < 8) = True := by
        rw [show (8 : Int32) = nI 8 from rfl, zlt (by omega) (by omega)]; simp; omega
      simp only [q8, q8', e1, e2, if_true, if_false, z10, zpl1]
      rcases zs20 p2 with ⟨m, hm1, hm, rfl, f1, f2⟩ | ⟨f1, f2⟩
      · have hcl := zc_le S s n
        simp only [f1, f2, if_true, if_false, z10]
        rw [zNum aC (by omega), zMany aM (by omega) (s := s) (by omega) (by unfold zpl; rw [if_pos h8]; rfl) (by unfold zwh; rw [if_pos h8])]
        simp only [zob1]
        by_cases hA : nI m < nI (zc S s n)
        · left
          simp only [hA, if_true]
          exact ⟨-2, fun _ _ _ _ _ _ _ => by rw [if_neg (by decide)], fun _ _ => rfl⟩
        · right
          unfold f_X0_change
          simp only [hA, if_false, if_true, zpl3, q8]
          rw [zat (by omega) (by omega), zput (by omega) (by omega)]
          refine ⟨c.2.2.2.2.2.1 s, (c.1, c.2.1, c.2.2.1, c.2.2.2.1, c.2.2.2.2.1, upd c.2.2.2.2.2.1 s (nI m), c.2.2.2.2.2.2.1, c.2.2.2.2.2.2.2.1, c.2.2.2.2.2.2.2.2.1, c.2.2.2.2.2.2.2.2.2.1, c.2.2.2.2.2.2.2.2.2.2.1, c.2.2.2.2.2.2.2.2.2.2.2.1, c.2.2.2.2.2.2.2.2.2.2.2.2.1, c.2.2.2.2.2.2.2.2.2.2.2.2.2.1, c.2.2.2.2.2.2.2.2.2.2.2.2.2.2.1, c.2.2.2.2.2.2.2.2.2.2.2.2.2.2.2), upd q (241 + s) (nI m), ⟨n, S, W, H, T, C, P, O, h, r, hh, aC, aM.fr (fun i _ => zun (by omega)), aL.fr aC.1 (fun i _ _ => zun (by omega)), aP.fr (fun i _ _ => zun (by omega)), ?_⟩, fun i hi => zun (by omega), fun s0 s1 k0 k1 g nx sz => rfl, fun sv st sv' st' hs => ?_⟩
          · obtain ⟨g0, g1, g2, g3, g4, g5, g6, g7, g8, g9, g10, g11⟩ := aG
            refine ⟨fun i hi => ?_, g1, ?_, ?_, ?_, ?_, ?_, ?_, g8, ?_, g10, g11⟩
            · show upd q (241 + s) (nI m) (241 + i) = upd c.2.2.2.2.2.1 s (nI m) i
              by_cases e : i = s
              · rw [zus (by omega), zus e]
              · rw [zun (by omega), zun e]; exact g0 i hi
            all_goals (rw [zun (by omega)]; assumption)
          · rw [show f_X7_save Z q sv st = _ from hs, zob2]
            simp (disch := omega) only [zpl1, zpl2, zpl3, zob1, zob2, zob3, zlt, zeq, znn, zn9, zat, zput, zaddc, zag, zas, zl2, zl3, zl4, zl5, zl7, zl8, zl10, zl11, zl12, zl16, zl20, zl22, zl23, zl31, zl32, zl60, zl64, zl80, zl100, zl121, zl181, zl241, zl249, zl261, zl273, zl285, zl297, zl309, zl321, zl322, zl323, zl324, zl325, zl326, zl327, zl500, zl61, zl328, zl329, zl657, zl986, nI_1, z1I, zadd, if_true, if_false]
            rw [aG.1 s h8]
      · left
        simp only [f1, f2, if_true, if_false, z10]
        exact ⟨-1, fun _ _ _ _ _ _ _ => by rw [if_neg (by decide)], fun _ _ => rfl⟩
    · have : s = 8 := by omega
      subst this
      have q8 : (nI 8 = 8) = True := by simp; rfl
      have q8' : (nI 8 < 8) = False := by rw [show (8 : Int32) = nI 8 from rfl, zlt (by omega) (by omega)]; simp
      simp only [q8, q8', e2, if_true, if_false, z10, zpl1]
      rcases zr5 p2 with ⟨m, hm, rfl, f1, f2⟩ | ⟨f1, f2⟩
      · right
        unfold f_X0_change
        simp only [f1, f2, if_true, if_false, z10, zpl3, q8]
        refine ⟨c.2.2.2.2.2.2.2.2.2.2.2.2.2.2.2, (c.1, c.2.1, c.2.2.1, c.2.2.2.1, c.2.2.2.2.1, c.2.2.2.2.2.1, c.2.2.2.2.2.2.1, c.2.2.2.2.2.2.2.1, c.2.2.2.2.2.2.2.2.1, c.2.2.2.2.2.2.2.2.2.1, c.2.2.2.2.2.2.2.2.2.2.1, c.2.2.2.2.2.2.2.2.2.2.2.1, c.2.2.2.2.2.2.2.2.2.2.2.2.1, c.2.2.2.2.2.2.2.2.2.2.2.2.2.1, c.2.2.2.2.2.2.2.2.2.2.2.2.2.2.1, nI m), upd q 327 (nI m), ⟨n, S, W, H, T, C, P, O, h, m, hh, aC, aM.fr (fun i _ => zun (by omega)), aL.fr aC.1 (fun i _ _ => zun (by omega)), aP.fr (fun i _ _ => zun (by omega)), ?_⟩, fun i hi => zun (by omega), fun s0 s1 k0 k1 g nx sz => rfl, fun sv st sv' st' hs => ?_⟩
        · obtain ⟨g0, g1, g2, g3, g4, g5, g6, g7, g8, g9, g10, g11⟩ := aG
          refine ⟨fun i hi => ?_, g1, ?_, ?_, ?_, ?_, ?_, ?_, rfl, ?_, hm, g11⟩
          · rw [zun (by omega)]; exact g0 i hi
          · rw [zun (by omega)]; assumption
          · rw [zun (by omega)]; assumption
          · rw [zun (by omega)]; assumption
          · rw [zun (by omega)]; assumption
          · rw [zun (by omega)]; assumption
          · rw [zun (by omega)]; assumption
          · rw [zus rfl]
        · rw [show f_X7_save Z q sv st = _ from hs, zob2]
          rw [show aget 986 q 327 = some (q 327) from rfl, zob1, show aset 986 q 327 (nI m) = some (upd q 327 (nI m)) from rfl, zob1, aG.2.2.2.2.2.2.2.2.2.1, aG.2.2.2.2.2.2.2.2.1]
      · left
        simp only [f1, f2, if_true, if_false, z10]
        exact ⟨-1, fun _ _ _ _ _ _ _ => by rw [if_neg (by decide)], fun _ _ => rfl⟩
  · left
    have q8 : (p1 = 8) = False := by
      apply eq_false; intro e; rw [e] at e2; revert e2; decide
    have e1 : f_X6_outside p1 0 7 = 1 := by
      rcases zr7 p1 with ⟨j, hj, rfl, -, -⟩ | ⟨x, -⟩
      · have : ∀ j, j < 8 → f_X7_in (nI j) 0 8 = 1 := by decide
        rw [this j (by omega)] at e2; simp at e2
      · exact x
    simp only [q8, e1, e2, if_true, if_false, z10]
    exact ⟨-1, fun _ _ _ _ _ _ _ => by rw [if_neg (by decide)], fun _ _ => rfl⟩
