def zTP (c : CV) (sp ta : Nat → Int32) : CV := (sp, c.2.1, c.2.2.1, ta, c.2.2.2.2.1, c.2.2.2.2.2.1, c.2.2.2.2.2.2.1, c.2.2.2.2.2.2.2.1, c.2.2.2.2.2.2.2.2.1, c.2.2.2.2.2.2.2.2.2.1, c.2.2.2.2.2.2.2.2.2.2.1, c.2.2.2.2.2.2.2.2.2.2.2.1, c.2.2.2.2.2.2.2.2.2.2.2.2.1, c.2.2.2.2.2.2.2.2.2.2.2.2.2.1, c.2.2.2.2.2.2.2.2.2.2.2.2.2.2.1, c.2.2.2.2.2.2.2.2.2.2.2.2.2.2.2)
theorem zErr {Z : Nat} {c : CV} {q : Nat → Int32} {fc : CV → CV → Int32 → Int32 → (Nat → SV) → Nat → Int32 → Option (Int32 × CV × (Nat → SV) × Nat × Int32)} {fm : (Nat → Int32) → Int32 → Option (Int32 × (Nat → Int32) × (Nat → Int32) × Int32)} (e : Int32) (h1 : ∀ s0 s1 k0 k1 g nx sz, fc s0 s1 k0 k1 g nx sz = some (e, c, g, nx, sz)) (h2 : ∀ sv st, fm sv st = some (e, q, sv, st)) : zOp Z c q fc fm := Or.inl ⟨e, h1, h2⟩
theorem zpl2v {v : Nat} (hv : v < 2) : nI 2 = nI (zpl (20 + v)) ∧ nI v = nI (zwh (20 + v)) := by
  have : v = 0 ∨ v = 1 := by omega
  rcases this with rfl | rfl <;> exact ⟨rfl, rfl⟩
theorem zpl0s {s : Nat} (hs : s < 8) : (0 : Int32) = nI (zpl s) ∧ nI s = nI (zwh s) := by
  unfold zpl zwh; rw [if_pos hs, if_pos hs]; exact ⟨rfl, rfl⟩
theorem zz_load {Z : Nat} {c : CV} {q : Nat → Int32} (hZ : 5000 < Z) (a : zRT c q) (p1 p2 p3 : Int32) : zOp Z c q (fun s0 s1 k0 k1 g nx sz => f_X6_load Z c s0 s1 k0 k1 g nx sz p1 p2 p3) (fun sv st => f_X7_load Z q sv st p1 p2 p3) := by
  obtain ⟨n, S, W, H, T, C, P, O, h, r, hh, aC, aM, aL, aP, aG⟩ := a
  unfold f_X6_load f_X7_load f_X0_loadingError f_X7_isLoad f_X7_isStand
  have hn := aC.1
  rcases zr1 p1 with ⟨v, hv, rfl, e1, e2⟩ | ⟨e1, e2⟩
  · rcases zr7 p2 with ⟨s, hs, rfl, f1, f2⟩ | ⟨f1, f2⟩
    · rcases zs10 p3 with ⟨m, hm1, hm, rfl, g1, g2⟩ | ⟨g1, g2⟩
      · have hcl := zc_le S s n
        have hcl2 := zc_le S (20 + v) n
        have e20 : (20 : Int32) + nI v = nI (20 + v) := zadd 20 v
        simp only [e1, e2, f1, f2, g1, g2, if_true, if_false, z10, e20]
        rw [zNum aC (by omega), zNum aC (by omega), zMany aM (by omega) (s := s) (by omega) (zpl0s (by omega)).1 (zpl0s (by omega)).2, show (2 : Int32) = nI 2 from rfl, zMany aM (by omega) (s := 20 + v) (by omega) (zpl2v (by omega)).1 (zpl2v (by omega)).2]
        simp (disch := omega) only [zpl1, zpl2, zpl3, zob1, zob2, zob3, zlt, zeq, znn, zn9, zat, zput, zaddc, zag, zas, zl2, zl3, zl4, zl5, zl7, zl8, zl10, zl11, zl12, zl16, zl20, zl22, zl23, zl31, zl32, zl60, zl64, zl80, zl100, zl121, zl181, zl241, zl249, zl261, zl273, zl285, zl297, zl309, zl321, zl322, zl323, zl324, zl325, zl326, zl327, zl500, zl61, zl328, zl329, zl657, zl986, nI_1, z1I, zadd, if_true, if_false]
        by_cases hA : zc S s n < m
        · simp only [hA, if_true]
          exact zErr (-2) (fun _ _ _ _ _ _ _ => by (rw [if_neg (by decide)]; first | done | rfl)) (fun _ _ => rfl)
        · simp only [hA, if_false]
          by_cases hB : 10 < zc S (20 + v) n + m
          · simp only [hB, if_true]
            exact zErr (-3) (fun _ _ _ _ _ _ _ => by (rw [if_neg (by decide)]; first | done | rfl)) (fun _ _ => rfl)
          · right
            simp only [hB, if_false, z10, if_true]
            obtain ⟨S', sp', ta', w', r', l1, l2, l3⟩ := zLoadL (h := h) (T := T) (C := C) (P := P) (O := O) (H := H) (Z := Z) (m := m) (s := s) (v := v) (n := n) (W := W) (by omega) (by omega) (by omega) hm m 0 Z 0 S c.1 c.2.2.2.1 q rfl (by omega) (by omega) (by omega) ⟨aC, aM, fun _ _ => rfl, aP⟩ (by omega)
            have l1' : f_X0_fillVan_L6 Z c.2.1 c.2.2.2.2.1 (nI v) (nI s) (nI m) Z 0 0 c.1 c.2.2.2.1 = some (r', sp', ta') := l1
            have l2' : f_X7_load_L50 Z (nI v) (nI s) (nI m) Z 0 0 q = some (r', w') := l2
            unfold f_X0_fillVan
            simp only [l1', l2', zob3, zob2]
            exact ⟨r', zTP c sp' ta', w', zB.ct l3 hh aL aG, fun i hi => l3.2.2.1 i (by omega), fun _ _ _ _ _ _ _ => rfl, fun sv st sv' st' hs => by rw [show f_X7_save Z q sv st = _ from hs, zob2]⟩
      · simp only [e1, e2, f1, f2, g1, g2, if_true, if_false, z10]
        exact zErr (-1) (fun _ _ _ _ _ _ _ => by (rw [if_neg (by decide)]; first | done | rfl)) (fun _ _ => rfl)
    · simp only [e1, e2, f1, f2, if_true, if_false, z10]
      exact zErr (-1) (fun _ _ _ _ _ _ _ => by (rw [if_neg (by decide)]; first | done | rfl)) (fun _ _ => rfl)
  · simp only [e1, e2, if_true, if_false, z10]
    exact zErr (-1) (fun _ _ _ _ _ _ _ => by (rw [if_neg (by decide)]; first | done | rfl)) (fun _ _ => rfl)
theorem zz_unload {Z : Nat} {c : CV} {q : Nat → Int32} (hZ : 5000 < Z) (a : zRT c q) (p1 p2 p3 : Int32) : zOp Z c q (fun s0 s1 k0 k1 g nx sz => f_X6_unload Z c s0 s1 k0 k1 g nx sz p1 p2 p3) (fun sv st => f_X7_unload Z q sv st p1 p2 p3) := by
  obtain ⟨n, S, W, H, T, C, P, O, h, r, hh, aC, aM, aL, aP, aG⟩ := a
  unfold f_X6_unload f_X7_unload f_X0_unloadingError f_X7_isLoad f_X7_isStand f_X0_freeAt
  have hn := aC.1
  rcases zr1 p1 with ⟨v, hv, rfl, e1, e2⟩ | ⟨e1, e2⟩
  · rcases zr7 p2 with ⟨s, hs, rfl, f1, f2⟩ | ⟨f1, f2⟩
    · rcases zs10 p3 with ⟨m, hm1, hm, rfl, g1, g2⟩ | ⟨g1, g2⟩
      · have hcl := zc_le S s n
        have hcl2 := zc_le S (20 + v) n
        have hbl2 := zb_le S W (20 + v) n
        have e20 : (20 : Int32) + nI v = nI (20 + v) := zadd 20 v
        have hz2 := zpl2v (v := v) (by omega)
        simp only [e1, e2, f1, f2, g1, g2, if_true, if_false, z10, e20]
        rw [zWholeAt aC (by omega) (by omega), zNum aC (by omega), zat (by omega) (by omega), show (2 : Int32) = nI 2 from rfl, zMany aM (by omega) (s := 20 + v) (by omega) hz2.1 hz2.2, zBrk aM (by omega) (s := 20 + v) (by omega) hz2.1 hz2.2, zRoom aM (by omega) (by omega), aG.1 s (by omega)]
        simp only [zob1]
        rw [zsub hbl2]
        simp (disch := omega) only [zpl1, zpl2, zpl3, zob1, zob2, zob3, zlt, zeq, znn, zn9, zat, zput, zaddc, zag, zas, zl2, zl3, zl4, zl5, zl7, zl8, zl10, zl11, zl12, zl16, zl20, zl22, zl23, zl31, zl32, zl60, zl64, zl80, zl100, zl121, zl181, zl241, zl249, zl261, zl273, zl285, zl297, zl309, zl321, zl322, zl323, zl324, zl325, zl326, zl327, zl500, zl61, zl328, zl329, zl657, zl986, nI_1, z1I, zadd, if_true, if_false]
        by_cases hA : zc S (20 + v) n - zb S W (20 + v) n < m
        · simp only [hA, if_true]
          exact zErr (-2) (fun _ _ _ _ _ _ _ => by (rw [zob1, if_neg (by decide)]; first | done | rfl)) (fun _ _ => rfl)
        · simp only [hA, if_false]
          by_cases hB : c.2.2.2.2.2.1 s - nI (zc S s n) < nI m
          · simp only [hB, if_true]
            exact zErr (-3) (fun _ _ _ _ _ _ _ => by (rw [zob1, if_neg (by decide)]; first | done | rfl)) (fun _ _ => rfl)
          · right
            simp only [hB, if_false, z10, if_true, zob1]
            obtain ⟨S', sp', ta', w', l1, l2, l3⟩ := zUnlL (h := h) (T := T) (C := C) (P := P) (O := O) (H := H) (m := m) (s := s) (v := v) (n := n) (W := W) (by omega) (by omega) hm n 0 Z 0 S c.1 c.2.2.2.1 q rfl (by omega) (by omega) (by omega) ⟨aC, aM, fun _ _ => rfl, aP⟩
            have l1' : f_X0_emptyVan_L6 c.2.1 c.2.2.2.2.1 (nI v) (nI s) (nI m) Z 0 0 c.1 c.2.2.2.1 = some (sp', ta') := l1
            have l2' : f_X7_unload_L53 (nI v) (nI s) Z (nI m) 0 q = some w' := l2
            have e20' : nI 20 + nI v = nI (20 + v) := zadd 20 v
            unfold f_X0_emptyVan
            rw [show (20 : Int32) = nI 20 from rfl]
            simp only [l1', l2', zob3, zob2, zob1, e20', zNum l3.1 (show 20 + v < 24 by omega), zMany l3.2.1 (show 100 < Z by omega) (s := 20 + v) (by omega) hz2.1 hz2.2]
            exact ⟨nI (zc S' (20 + v) n), zTP c sp' ta', w', zB.ct l3 hh aL aG, fun i hi => l3.2.2.1 i (by omega), fun _ _ _ _ _ _ _ => rfl, fun sv st sv' st' hs => by rw [show f_X7_save Z q sv st = _ from hs, zob2]⟩
      · simp only [e1, e2, f1, f2, g1, g2, if_true, if_false, z10]
        exact zErr (-1) (fun _ _ _ _ _ _ _ => by (rw [zob1, if_neg (by decide)]; first | done | rfl)) (fun _ _ => rfl)
    · simp only [e1, e2, f1, f2, if_true, if_false, z10]
      exact zErr (-1) (fun _ _ _ _ _ _ _ => by (rw [zob1, if_neg (by decide)]; first | done | rfl)) (fun _ _ => rfl)
  · simp only [e1, e2, if_true, if_false, z10]
    exact zErr (-1) (fun _ _ _ _ _ _ _ => by (rw [zob1, if_neg (by decide)]; first | done | rfl)) (fun _ _ => rfl)
theorem zz_toWorkshop {Z : Nat} {c : CV} {q : Nat → Int32} (hZ : 5000 < Z) (a : zRT c q) (p1 : Int32) : zOp Z c q (fun s0 s1 k0 k1 g nx sz => f_X6_toWorkshop Z c s0 s1 k0 k1 g nx sz p1) (fun sv st => f_X7_toWorkshop Z q sv st p1) := by
  obtain ⟨n, S, W, H, T, C, P, O, h, r, hh, aC, aM, aL, aP, aG⟩ := a
  unfold f_X6_toWorkshop f_X7_toWorkshop f_X0_deliveringError
  have hn := aC.1
  rcases zr1 p1 with ⟨v, hv, rfl, e1, e2⟩ | ⟨e1, e2⟩
  · have hcl2 := zc_le S (20 + v) n
    have hbl2 := zb_le S W (20 + v) n
    have e20 : (20 : Int32) + nI v = nI (20 + v) := zadd 20 v
    have hz2 := zpl2v (v := v) (by omega)
    simp only [e1, e2, if_true, if_false, z10, e20]
    rw [zBrokenAt aC (by omega) (by omega), show (2 : Int32) = nI 2 from rfl, zBrk aM (by omega) (s := 20 + v) (by omega) hz2.1 hz2.2]
    have e0 : (nI (zb S W (20 + v) n) = 0) = (zb S W (20 + v) n = 0) := zeq (b := 0) (by omega) (by omega)
    simp only [zob1, e0]
    by_cases hA : zb S W (20 + v) n = 0
    · simp only [hA, if_true]
      exact zErr (-2) (fun _ _ _ _ _ _ _ => by (rw [zob1, if_neg (by decide)]; first | done | rfl)) (fun _ _ => rfl)
    · right
      simp only [hA, if_false, z10, if_true, zob1]
      obtain ⟨S', sp', ta', w', l1, l2, l3⟩ := zDelL (h := h) (T := T) (C := C) (P := P) (O := O) (H := H) (v := v) (n := n) (W := W) (by omega) S n 0 Z S c.1 c.2.2.2.1 q rfl (by omega) (by omega) (fun _ _ => rfl) ⟨aC, aM, fun _ _ => rfl, aP⟩
      have l1' : f_X0_deliver_L4 c.2.1 c.2.2.2.2.1 (nI v) Z 0 0 c.1 c.2.2.2.1 = some (nI (zb S W (20 + v) n), sp', ta') := l1
      have l2' : f_X7_toWorkshop_L31 (nI v) Z 0 q = some w' := l2
      unfold f_X0_deliver
      simp only [l1', l2', zob3, zob2, zob1]
      exact ⟨nI (zb S W (20 + v) n), zTP c sp' ta', w', zB.ct l3 hh aL aG, fun i hi => l3.2.2.1 i (by omega), fun _ _ _ _ _ _ _ => rfl, fun sv st sv' st' hs => by rw [show f_X7_save Z q sv st = _ from hs, zob2]⟩
  · simp only [e1, e2, if_true, if_false, z10]
    exact zErr (-1) (fun _ _ _ _ _ _ _ => by (rw [zob1, if_neg (by decide)]; first | done | rfl)) (fun _ _ => rfl)
