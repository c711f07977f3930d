def zOp (Z : Nat) (c : CV) (q : Nat → Int32) (fc : CV → CV → Int32 → Int32 → (Nat → SV) → Nat → Int32 → Option (Int32 × CV × (Nat → SV) × Nat × Int32)) (fm : (Nat → Int32) → Int32 → Option (Int32 × (Nat → Int32) × (Nat → Int32) × Int32)) : Prop :=
  (∃ e, (∀ s0 s1 k0 k1 g nx sz, fc s0 s1 k0 k1 g nx sz = some (e, c, g, nx, sz)) ∧ ∀ sv st, fm sv st = some (e, q, sv, st)) ∨
  (∃ r c' q', zRT c' q' ∧ (∀ i, 328 ≤ i → q' i = q i) ∧ (∀ s0 s1 k0 k1 g nx sz, fc s0 s1 k0 k1 g nx sz = some (r, c', f_X1_record g nx sz c s0 s1 k0 k1)) ∧ ∀ sv st sv' st', f_X7_save Z q sv st = some (sv', st') → fm sv st = some (r, q', sv', st'))
theorem zRC.cg {n : Nat} {S S' W : Nat → Nat} {sp we ta : Nat → Int32} {num : Int32} (a : zRC n S W sp we ta num) (e : ∀ u, u < n → S' u = S u) : zRC n S' W sp we ta num := by
  obtain ⟨h0, h1, h2, h3, h4, h5, h6, h7⟩ := a
  refine ⟨h0, h1, fun u hu => by rw [e u hu]; exact h2 u hu, h3, h4, fun u hu => by rw [e u hu]; exact h5 u hu, h6, fun s hs => ?_⟩
  rw [h7 s hs]; congr 1
  exact zsm_congr (fun u hu => by rw [e u hu])
theorem zRM.cg {n : Nat} {S S' W : Nat → Nat} {q : Nat → Int32} (a : zRM n S W q) (e : ∀ u, u < n → S' u = S u) : zRM n S' W q := by
  obtain ⟨h0, h1, h2, h3, h4, h5, h6⟩ := a
  exact ⟨h0, h1, fun u hu => by rw [e u hu]; exact h2 u hu, h3, fun u hu => by rw [e u hu]; exact h4 u hu, fun u hu hs => by rw [e u hu] at hs ⊢; exact h5 u hu hs, h6⟩
theorem zBuyC {n m s : Nat} {S W : Nat → Nat} {we : Nat → Int32} (hnm : n + m ≤ 60) (hs : s < 8) (hS : ∀ u, n ≤ u → u < n + m → S u = s) : ∀ k i F sp ta, m - i = k → i ≤ m → m - i < F → zRC (n + i) S W sp we ta (nI (n + i)) → (∀ u, n + i ≤ u → W u = 0) → ∃ sp' ta', f_X0_purchase_L11 (nI s) (nI m) F (nI i) (nI (n + i)) sp ta = some (nI (n + m), sp', ta') ∧ zRC (n + m) S W sp' we ta' (nI (n + m)) := by
  intro k
  induction k with
  | zero =>
    intro i F sp ta hk hi hF a hW
    obtain ⟨F, rfl⟩ : ∃ G, F = G + 1 := ⟨F - 1, by omega⟩
    have : i = m := by omega
    subst this
    refine ⟨sp, ta, ?_, a⟩
    rw [f_X0_purchase_L11]
    simp (disch := omega) only [zpl1, zpl2, zpl3, zob1, zob2, zob3, zlt, zeq, znn, zn9, zat, zput, zaddc, zag, zas, zl2, zl3, zl4, zl5, zl7, zl8, zl10, zl11, zl12, zl16, zl20, zl22, zl23, zl31, zl32, zl60, zl64, zl80, zl100, zl121, zl181, zl241, zl249, zl261, zl273, zl285, zl297, zl309, zl321, zl322, zl323, zl324, zl325, zl326, zl327, zl500, zl61, zl328, zl329, zl657, zl986, nI_1, z1I, zadd, if_true, if_false, Nat.lt_irrefl]
  | succ k ih =>
    intro i F sp ta hk hi hF a hW
    obtain ⟨F, rfl⟩ : ∃ G, F = G + 1 := ⟨F - 1, by omega⟩
    have him : i < m := by omega
    have hsi := hS (n + i) (by omega) (by omega)
    rw [f_X0_purchase_L11]
    unfold f_X5_addNew
    simp (disch := omega) only [zpl1, zpl2, zpl3, zob1, zob2, zob3, zlt, zeq, znn, zn9, zat, zput, zaddc, zag, zas, zl2, zl3, zl4, zl5, zl7, zl8, zl10, zl11, zl12, zl16, zl20, zl22, zl23, zl31, zl32, zl60, zl64, zl80, zl100, zl121, zl181, zl241, zl249, zl261, zl273, zl285, zl297, zl309, zl321, zl322, zl323, zl324, zl325, zl326, zl327, zl500, zl61, zl328, zl329, zl657, zl986, nI_1, z1I, zadd, if_true, if_false, him]
    refine ih (i + 1) F _ _ (by omega) (by omega) (by omega) ?_ (fun u hu => hW u (by omega))
    obtain ⟨h0, h1, h2, h3, h4, h5, h6, h7⟩ := a
    refine ⟨by omega, rfl, fun u hu => ?_, h3, fun u hu => hW u (by omega), fun u hu => ?_, h6, fun t ht => ?_⟩
    · by_cases e : u = n + i
      · rw [e, hsi]; omega
      · exact h2 u (by omega)
    · by_cases e : u = n + i
      · rw [zus e, e, hsi]
      · rw [zun e]; exact h5 u (by omega)
    · show upd ta s (ta s + nI 1) t = nI (zc S t (n + i) + zid (S (n + i) = t))
      rw [hsi]
      by_cases e : t = s
      · subst e
        rw [zus rfl, h7 t ht, zadd]; simp [zid]
      · rw [zun e, h7 t ht]; simp only [zid]; rw [if_neg (fun h => e h.symm)]; rfl
theorem zBuyM {n m s : Nat} {S W : Nat → Nat} {le q : Nat → Int32} (hnm : n + m ≤ 60) (hs : s < 8) (hS : ∀ u, n ≤ u → u < n + m → S u = s) (hle : ∀ u, n ≤ u → u < 60 → le u = 0) (hW : ∀ u, n ≤ u → W u = 0) : ∀ k i F w, m - i = k → i ≤ m → m - i < F → zRM (n + i) S W (upd w 0 (nI (n + i))) → zRL (n + i) le w → (∀ j, j = 0 ∨ 241 ≤ j → w j = q j) → ∃ w', f_X7_buy_L71 (nI s) (nI m) (nI n) F (nI (n + i)) w = some w' ∧ zRM (n + m) S W (upd w' 0 (nI (n + m))) ∧ zRL (n + m) le w' ∧ (∀ j, j = 0 ∨ 241 ≤ j → w' j = q j) := by
  intro k
  induction k with
  | zero =>
    intro i F w hk hi hF a b c
    obtain ⟨F, rfl⟩ : ∃ G, F = G + 1 := ⟨F - 1, by omega⟩
    have : i = m := by omega
    subst this
    refine ⟨w, ?_, a, b, c⟩
    rw [f_X7_buy_L71]
    simp (disch := omega) only [zpl1, zpl2, zpl3, zob1, zob2, zob3, zlt, zeq, znn, zn9, zat, zput, zaddc, zag, zas, zl2, zl3, zl4, zl5, zl7, zl8, zl10, zl11, zl12, zl16, zl20, zl22, zl23, zl31, zl32, zl60, zl64, zl80, zl100, zl121, zl181, zl241, zl249, zl261, zl273, zl285, zl297, zl309, zl321, zl322, zl323, zl324, zl325, zl326, zl327, zl500, zl61, zl328, zl329, zl657, zl986, nI_1, z1I, zadd, if_true, if_false, Nat.lt_irrefl]
  | succ k ih =>
    intro i F w hk hi hF a b c
    obtain ⟨F, rfl⟩ : ∃ G, F = G + 1 := ⟨F - 1, by omega⟩
    have him : n + i < n + m := by omega
    have hsi := hS (n + i) (by omega) (by omega)
    rw [f_X7_buy_L71, zGo (by omega)]
    simp (disch := omega) only [zpl1, zpl2, zpl3, zob1, zob2, zob3, zlt, zeq, znn, zn9, zat, zput, zaddc, zag, zas, zl2, zl3, zl4, zl5, zl7, zl8, zl10, zl11, zl12, zl16, zl20, zl22, zl23, zl31, zl32, zl60, zl64, zl80, zl100, zl121, zl181, zl241, zl249, zl261, zl273, zl285, zl297, zl309, zl321, zl322, zl323, zl324, zl325, zl326, zl327, zl500, zl61, zl328, zl329, zl657, zl986, nI_1, z1I, zadd, if_true, if_false, him]
    refine ih (i + 1) F _ (by omega) (by omega) (by omega) ?_ ?_ ?_
    · obtain ⟨h0, h1, h2, h3, h4, h5, h6⟩ := a
      have hz : zpl s = 0 := by unfold zpl; rw [if_pos hs]
      have hw : zwh s = s := by unfold zwh; rw [if_pos hs]
      refine ⟨by omega, by rw [zus rfl], fun u hu => ?_, h3, fun u hu => ?_, fun u hu hs2 => ?_, fun u hu => ?_⟩
      · by_cases e : u = n + i
        · rw [e, hsi]; omega
        · exact h2 u (by omega)
      · rw [zun (by omega), zun (by omega), zun (by omega), zun (by omega)]
        by_cases e : u = n + i
        · rw [zus (by omega), e, hsi, hz]; rfl
        · rw [zun (by omega)]; have := h4 u (by omega); rw [zun (by omega)] at this; exact this
      · rw [zun (by omega), zun (by omega), zun (by omega)]
        by_cases e : u = n + i
        · rw [zus (by omega), e, hsi, hw]
        · rw [zun (by omega), zun (by omega)]; have := h5 u (by omega) hs2; rw [zun (by omega)] at this; exact this
      · rw [zun (by omega), zun (by omega)]
        by_cases e : u = n + i
        · rw [zus (by omega), e, hW _ (by omega)]; rfl
        · rw [zun (by omega), zun (by omega), zun (by omega)]; have := h6 u (by omega); rw [zun (by omega)] at this; exact this
    · refine ⟨fun u hu => ?_, fun u hu h6 => hle u (by omega) h6⟩
      by_cases e : u = n + i
      · rw [zus (by omega), e, hle _ (by omega) (by omega)]
      · rw [zun (by omega), zun (by omega), zun (by omega), zun (by omega)]; exact b.1 u (by omega)
    · intro j hj
      rw [zun (by omega), zun (by omega), zun (by omega), zun (by omega)]; exact c j hj
theorem zz_buy {Z : Nat} {c : CV} {q : Nat → Int32} (hZ : 5000 < Z) (a : zRT c q) (p1 p2 : Int32) : zOp Z c q (fun s0 s1 k0 k1 g nx sz => f_X6_buy Z c s0 s1 k0 k1 g nx sz p1 p2) (fun sv st => f_X7_buy Z q sv st p1 p2) := by
  obtain ⟨n, S, W, H, T, C, P, O, h, r, hh, aC, aM, aL, aP, aG⟩ := a
  unfold f_X6_buy f_X7_buy f_X7_isStand f_X0_buyingError f_X0_spendable f_X0_freeAt
  rcases zr7 p1 with ⟨s, hs, rfl, e1, e2⟩ | ⟨e1, e2⟩
  · rcases zs20 p2 with ⟨m, hm1, hm, rfl, f1, f2⟩ | ⟨f1, f2⟩
    · have hk1 : f_X5_numberOfKind Z c.2.2.2.1 1 = some (nI (zk S 1 n)) := zKind aC (k := 1) (by omega) (by omega)
      have hn := aC.1
      have hcl := zc_le S s n
      have hcan : f_X7_canSpend Z q (5 * nI m) = some (if c.2.2.2.2.2.2.2.2.2.2.2.1 - 10 * nI (zk S 1 n) < 5 * nI m then 0 else 1) := by
        rw [zCan aM (by omega), aG.2.2.2.1]
      have hroom : f_X7_roomOf Z q (nI s) = some (c.2.2.2.2.2.1 s - nI (zc S s n)) := by
        rw [zRoom aM (by omega) (by omega), aG.1 s (by omega)]
      simp only [e1, e2, f1, f2, hk1, hcan, hroom, zob1, if_true, z10, if_false, aC.2.1, show aget 986 q 0 = some (nI n) by rw [← aM.2.1]; rfl]
      by_cases hA : c.2.2.2.2.2.2.2.2.2.2.2.1 - 10 * nI (zk S 1 n) < 5 * nI m
      · left
        simp only [hA, if_true, if_false, zob1]
        exact ⟨-2, fun _ _ _ _ _ _ _ => by rw [if_neg (by decide)], fun _ _ => rfl⟩
      · simp only [hA, if_false, z10, zpl1]
        have e60 : (60 - nI n < nI m) = (60 < n + m) := by
          rw [show (60 : Int32) = nI 60 from rfl, zsub (by omega), zlt (by omega) (by omega)]; apply propext; omega
        have e60' : ((60 : Int32) < nI n + nI m) = (60 < n + m) := by
          rw [zadd, show (60 : Int32) = nI 60 from rfl, zlt (by omega) (by omega)]
        simp only [e60, e60']
        by_cases hB : 60 < n + m
        · left
          simp only [hB, if_true, zob1]
          exact ⟨-3, fun _ _ _ _ _ _ _ => by rw [if_neg (by decide)], fun _ _ => rfl⟩
        · simp only [hB, if_false, z10]
          have hfr : f_X2_at 8 c.2.2.2.2.2.1 (nI s) - f_X5_numberAt c.2.2.2.1 (nI s) = c.2.2.2.2.2.1 s - nI (zc S s n) := by
            rw [zat (by omega) (by omega), zNum aC (by omega)]
          simp only [hfr]
          by_cases hD : c.2.2.2.2.2.1 s - nI (zc S s n) < nI m
          · left
            simp only [hD, if_true, zob1]
            exact ⟨-3, fun _ _ _ _ _ _ _ => by rw [if_neg (by decide)], fun _ _ => rfl⟩
          · right
            simp only [hD, if_false, z10, zob1]
            let S' : Nat → Nat := fun u => if u < n then S u else s
            have hS1 : ∀ u, u < n → S' u = S u := fun u hu => if_pos hu
            have hS2 : ∀ u, n ≤ u → u < n + m → S' u = s := fun u hu _ => if_neg (by omega)
            have aC' := aC.cg hS1
            obtain ⟨sp', ta', l1, l2⟩ := zBuyC (n := n) (m := m) (s := s) (S := S') (W := W) (we := c.2.1) (by omega) (by omega) hS2 m 0 Z c.1 c.2.2.2.1 rfl (by omega) (by omega) (by rw [aC.2.1] at aC'; exact aC') (fun u hu => aC.2.2.2.2.1 u (by omega))
            have aM' := aM.cg hS1
            obtain ⟨w', l3, l4, l5, l6⟩ := zBuyM (n := n) (m := m) (s := s) (S := S') (W := W) (le := c.2.2.1) (q := q) (by omega) (by omega) hS2 aL.2 (fun u hu => aC.2.2.2.2.1 u hu) m 0 Z q rfl (by omega) (by omega) (aM'.fr (fun i _ => by
              by_cases e : i = 0
              · subst e; rw [zus rfl, aM.2.1]; rfl
              · rw [zun e])) aL (fun _ _ => rfl)
            have l1' : f_X0_purchase_L11 (nI s) (nI m) Z 0 (nI n) c.1 c.2.2.2.1 = some (nI (n + m), sp', ta') := l1
            have l3' : f_X7_buy_L71 (nI s) (nI m) (nI n) Z (nI n) q = some w' := l3
            unfold f_X0_purchase f_X7_spends
            simp only [l1', l3', zob1, zob3, zob2, zob6, zpl2, zpl3, f_X0_spend]
            refine ⟨nI n, (sp', c.2.1, c.2.2.1, ta', nI (n + m), c.2.2.2.2.2.1, c.2.2.2.2.2.2.1, c.2.2.2.2.2.2.2.1, c.2.2.2.2.2.2.2.2.1, c.2.2.2.2.2.2.2.2.2.1, c.2.2.2.2.2.2.2.2.2.2.1, c.2.2.2.2.2.2.2.2.2.2.2.1 - 5 * nI m, c.2.2.2.2.2.2.2.2.2.2.2.2.1 + 5 * nI m, c.2.2.2.2.2.2.2.2.2.2.2.2.2.1, c.2.2.2.2.2.2.2.2.2.2.2.2.2.2.1, c.2.2.2.2.2.2.2.2.2.2.2.2.2.2.2), upd (upd (upd w' 0 (nI (n + m))) 321 (c.2.2.2.2.2.2.2.2.2.2.2.1 - 5 * nI m)) 323 (c.2.2.2.2.2.2.2.2.2.2.2.2.1 + 5 * nI m), ⟨n + m, S', W, H, T, C, P, O, h, r, hh, l2, l4.fr (fun i _ => ?_), l5.fr (by omega) (fun i _ _ => ?_), ?_, ?_⟩, fun i hi => ?_, fun s0 s1 k0 k1 g nx sz => rfl, fun sv st sv' st' hs => ?_⟩
            · rw [zun (by omega), zun (by omega)]
            · rw [zun (by omega), zun (by omega), zun (by omega)]
            · have b := aP.fr (q' := upd (upd (upd w' 0 (nI (n + m))) 321 (c.2.2.2.2.2.2.2.2.2.2.2.1 - 5 * nI m)) 323 (c.2.2.2.2.2.2.2.2.2.2.2.2.1 + 5 * nI m)) (fun i _ _ => by rw [zun (by omega), zun (by omega), zun (by omega)]; exact l6 i (by omega))
              refine ⟨fun k hk u => ?_, b.2⟩
              rw [b.1 k hk u]
              constructor
              · rintro ⟨x, y⟩; exact ⟨by omega, by rw [hS1 u x]; exact y⟩
              · rintro ⟨x, y⟩
                rcases Nat.lt_or_ge u n with z | z
                · exact ⟨z, by rw [← hS1 u z]; exact y⟩
                · rw [hS2 u z x] at y; omega
            · obtain ⟨g0, g1, g2, g3, g4, g5, g6, g7, g8, g9, g10, g11⟩ := aG
              refine ⟨fun i hi => ?_, g1, ?_, ?_, ?_, ?_, ?_, ?_, g8, ?_, g10, g11⟩
              · rw [zun (by omega), zun (by omega), zun (by omega), l6 _ (by omega)]; exact g0 i hi
              · rw [zun (by omega), zun (by omega), zun (by omega), l6 _ (by omega)]; exact g2
              · rw [zun (by omega), zus rfl]
              · rw [zus rfl]
              · rw [zun (by omega), zun (by omega), zun (by omega), l6 _ (by omega)]; exact g5
              · rw [zun (by omega), zun (by omega), zun (by omega), l6 _ (by omega)]; exact g6
              · rw [zun (by omega), zun (by omega), zun (by omega), l6 _ (by omega)]; exact g7
              · rw [zun (by omega), zun (by omega), zun (by omega), l6 _ (by omega)]; exact g9
            · rw [zun (by omega), zun (by omega), zun (by omega), l6 _ (by omega)]
            · have hs' : f_X7_save Z q sv st = some (sv', st') := hs
              rw [hs', zob2]
              have q1 : aget 986 w' 0 = some (nI n) := by
                rw [show aget 986 w' 0 = some (w' 0) from rfl, l6 0 (by omega), aM.2.1]
              rw [q1, zob1, zadd, show aset 986 w' 0 (nI (n + m)) = some (upd w' 0 (nI (n + m))) from rfl, zob1]
              have q2 : aget 986 (upd w' 0 (nI (n + m))) 321 = some (c.2.2.2.2.2.2.2.2.2.2.2.1) := by
                rw [show aget 986 (upd w' 0 (nI (n + m))) 321 = some (upd w' 0 (nI (n + m)) 321) from rfl, zun (by omega), l6 _ (by omega), aG.2.2.2.1]
              rw [q2, zob1, show ∀ x, aset 986 (upd w' 0 (nI (n + m))) 321 x = some (upd (upd w' 0 (nI (n + m))) 321 x) from fun _ => rfl, zob1]
              have q3 : ∀ x, aget 986 (upd (upd w' 0 (nI (n + m))) 321 x) 323 = some (c.2.2.2.2.2.2.2.2.2.2.2.2.1) := fun x => by
                rw [show aget 986 (upd (upd w' 0 (nI (n + m))) 321 x) 323 = some (upd (upd w' 0 (nI (n + m))) 321 x 323) from rfl, zun (by omega), zun (by omega), l6 _ (by omega), aG.2.2.2.2.1]
              rw [q3, zob1, show ∀ y x, aset 986 (upd (upd w' 0 (nI (n + m))) 321 y) 323 x = some (upd (upd (upd w' 0 (nI (n + m))) 321 y) 323 x) from fun _ _ => rfl, zob1, zob1]
    · left
      simp only [e1, e2, f1, f2, zob1, if_true, z10, if_false]
      exact ⟨-1, fun _ _ _ _ _ _ _ => by rw [if_neg (by decide)], fun _ _ => rfl⟩
  · left
    simp only [e1, e2, zob1, if_true, z10, if_false]
    exact ⟨-1, fun _ _ _ _ _ _ _ => by rw [if_neg (by decide)], fun _ _ => rfl⟩
