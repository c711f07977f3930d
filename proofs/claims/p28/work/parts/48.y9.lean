theorem zRC.cg {n : Nat} {S S' W : Nat → Nat} {sp we ta : Nat → Int32} {num : Int32} (a : zRC n S W sp we ta num) (e : ∀ u, u < n → S' u = S u) : zRC n S' W sp we ta num := by
  obtain ⟨h0, h1, h2, h3, h4, h5, h6, h7⟩ := a
  refine ⟨h0, h1, fun u hu => by rw [e u hu]; exact h2 u hu, h3, h4, fun u hu => by rw [e u hu]; exact h5 u hu, h6, fun s hs => ?_⟩
  rw [h7 s hs]; congr 1
  exact zsm_congr (fun u hu => by rw [e u hu])
theorem zBuyC {n m s : Nat} {S W : Nat → Nat} {we : Nat → Int32} (hnm : n + m ≤ 60) (hs : s < 8) (hS : ∀ u, n ≤ u → u < n + m → S u = s) : ∀ k i F sp ta, m - i = k → i ≤ m → m - i < F → zRC (n + i) S W sp we ta (nI (n + i)) → (∀ u, n + i ≤ u → W u = 0) → ∃ sp' ta', f_X0_purchase_L11 (nI s) (nI m) F (nI i) (nI (n + i)) sp ta = some (nI (n + m), sp', ta') ∧ zRC (n + m) S W sp' we ta' (nI (n + m)) := by
  intro k
  induction k with
  | zero =>
    intro i F sp ta hk hi hF a hW
    obtain ⟨F, rfl⟩ : ∃ G, F = G + 1 := ⟨F - 1, by omega⟩
    have : i = m := by omega
    subst this
    refine ⟨sp, ta, ?_, a⟩
    rw [f_X0_purchase_L11]
    simp (disch := omega) only [zpl1, zpl2, zpl3, zob1, zob2, zob3, zlt, zeq, znn, zn9, zat, zput, zaddc, zag, zas, zl2, zl3, zl4, zl5, zl6, zl7, zl8, zl10, zl12, zl16, zl20, zl22, zl23, zl30, zl31, zl32, zl60, zl64, zl80, zl100, zl500, zl580, nI_1, z1I, zadd, if_true, if_false, Nat.lt_irrefl]
  | succ k ih =>
    intro i F sp ta hk hi hF a hW
    obtain ⟨F, rfl⟩ : ∃ G, F = G + 1 := ⟨F - 1, by omega⟩
    have him : i < m := by omega
    have hsi := hS (n + i) (by omega) (by omega)
    rw [f_X0_purchase_L11]
    unfold f_X5_addNew
    simp (disch := omega) only [zpl1, zpl2, zpl3, zob1, zob2, zob3, zlt, zeq, znn, zn9, zat, zput, zaddc, zag, zas, zl2, zl3, zl4, zl5, zl6, zl7, zl8, zl10, zl12, zl16, zl20, zl22, zl23, zl30, zl31, zl32, zl60, zl64, zl80, zl100, zl500, zl580, nI_1, z1I, zadd, if_true, if_false, him]
    refine ih (i + 1) F _ _ (by omega) (by omega) (by omega) ?_ (fun u hu => hW u (by omega))
    obtain ⟨h0, h1, h2, h3, h4, h5, h6, h7⟩ := a
    refine ⟨by omega, rfl, fun u hu => ?_, h3, fun u hu => hW u (by omega), fun u hu => ?_, h6, fun t ht => ?_⟩
    · by_cases e : u = n + i
      · rw [e, hsi]; omega
      · exact h2 u (by omega)
    · by_cases e : u = n + i
      · rw [zus e, e, hsi]
      · rw [zun e]; exact h5 u (by omega)
    · show upd ta s (ta s + nI 1) t = nI (zc S t (n + i) + zid (S (n + i) = t))
      rw [hsi]
      by_cases e : t = s
      · subst e
        rw [zus rfl, h7 t ht, zadd]; simp [zid]
      · rw [zun e, h7 t ht]; simp only [zid]; rw [if_neg (fun h => e h.symm)]; rfl
section op
variable {v : OV} {n : Nat} {S W : Nat → Nat} {H : Nat → Option Nat} {T C P O R Y : Nat → Nat} {h r hs sn : Nat} {Z : Nat} {sp we le ta : Nat → Int32} {num : Int32} {rooms pu sh ho pa : Nat → Int32} {hours house spent loans rate : Int32}
theorem yWoc {c : CV} : (yW v c).1 = c := rfl
theorem zsm_app {f : Nat → Nat} {m : Nat} : zsm f (n + m) = zsm f n + zsm (fun i => f (n + i)) m := by
  induction m with
  | zero => rfl
  | succ m ih => rw [← Nat.add_assoc]; simp only [zsm]; rw [ih]; omega
theorem zsm_const {k m : Nat} : zsm (fun _ => k) m = m * k := by
  induction m with
  | zero => simp [zsm]
  | succ m ih => simp only [zsm]; rw [ih, Nat.succ_mul]
theorem yhs (a : yC n S W H T C P O R Y h r hs sn v.1) : hs + zsm C 12 + sn = 580 ∧ 10 * zk S 1 n ≤ hs := by
  have h1 := ySum a.2.1
  have h2 := a.2.2.2.2.2.2.2.2.2.1
  have h3 := a.2.2.2.2.2.2.2.2.2.2.1
  omega
theorem yBuy (hZ : 5000 < Z) (ok : OK v) (a : yC n S W H T C P O R Y h r hs sn v.1) {s m : Nat} (hs' : s < 8) (hm1 : 1 ≤ m) (hm : m ≤ 20) :
    (hs < 10 * zk S 1 n + 5 * m ∧ m_buy Z v (nI s) (nI m) = some (-2, v)) ∨ ((60 < n + m ∨ R s < zc S s n + m) ∧ m_buy Z v (nI s) (nI m) = some (-3, v)) ∨
    (n + m ≤ 60 ∧ 10 * zk S 1 n + 5 * m ≤ hs ∧ zc S s n + m ≤ R s ∧ ∃ c' S', m_buy Z v (nI s) (nI m) = some (nI n, yW v c') ∧ yC (n + m) S' W H T C P O R Y h r (hs - 5 * m) (sn + 5 * m) c' ∧ zc S' s (n + m) = zc S s n + m ∧ zk S' 1 (n + m) = zk S 1 n) := by
  have hh := yhs a
  have aC := a.1
  have hn := aC.1
  obtain ⟨g0, g1, g2, g3, g4, g5, g6, g7, g8, g9, g10, g11, g12⟩ := a.2.2
  have hcl := zc_le S s n
  have hk1 : f_X5_numberOfKind Z v.1.2.2.2.1 1 = some (nI (zk S 1 n)) := zKind aC (k := 1) (by omega) (by omega)
  have hkl := zk_le S 1 n
  have e1 : f_X6_outside (nI s) 0 7 = 0 := youtI (m := 7) (M := 7) rfl (by decide) (by omega)
  have f1 : f_X6_outside (nI m) 1 20 = 0 := yout1 (m := 20) (M := 20) rfl (by decide) hm1 hm
  have hfr : f_X2_at 8 v.1.2.2.2.2.2.1 (nI s) - f_X5_numberAt v.1.2.2.2.1 (nI s) = nI (R s) - nI (zc S s n) := by
    rw [zat (by omega) (by omega), zNum aC (by omega), (g0 s hs').1]
  have hR := g0 s hs'
  have hfr2 : nI (R s) - nI (zc S s n) = nI (R s - zc S s n) := zsub hR.2.2
  have hsp : v.1.2.2.2.2.2.2.2.2.2.2.2.1 - 10 * nI (zk S 1 n) = nI (hs - 10 * zk S 1 n) := by
    rw [g2, zl10, zmul, zsub (by omega)]
  have k1 : (nI (hs - 10 * zk S 1 n) < 5 * nI m) = (hs - 10 * zk S 1 n < 5 * m) := by
    rw [zl5, zmul, zlt (by omega) (by omega)]
  have k2 : (60 - nI n < nI m) = (60 < n + m) := by
    rw [zl60, zsub (by omega), zlt (by omega) (by omega)]; apply propext; omega
  have k3 : (nI (R s - zc S s n) < nI m) = (R s < zc S s n + m) := by
    rw [zlt (by omega) (by omega)]; apply propext; omega
  unfold m_buy
  rw [gO_in ok]
  unfold f_X6_buy f_X0_buyingError f_X0_spendable f_X0_freeAt
  simp only [e1, f1, hk1, aC.2.1, hfr, hfr2, hsp, k1, k2, k3, zob1, if_true]
  by_cases hA : hs - 10 * zk S 1 n < 5 * m
  · left
    refine ⟨by omega, ?_⟩
    rw [if_pos hA, zob1, if_neg (by decide)]; rfl
  · rw [if_neg hA]
    right
    by_cases hB : 60 < n + m
    · left
      refine ⟨Or.inl hB, ?_⟩
      rw [if_pos hB, zpl1, if_pos rfl, zob1, if_neg (by decide)]; rfl
    · by_cases hD : R s < zc S s n + m
      · left
        refine ⟨Or.inr hD, ?_⟩
        rw [if_neg hB, if_pos hD, zpl1, if_pos rfl, zob1, if_neg (by decide)]; rfl
      · right
        refine ⟨by omega, by omega, by omega, ?_⟩
        rw [if_neg hB, if_neg hD, zpl1, if_neg (by decide), zob1, if_pos rfl]
        let S' : Nat → Nat := fun u => if u < n then S u else s
        have hS1 : ∀ u, u < n → S' u = S u := fun u hu => if_pos hu
        have hS2 : ∀ u, n ≤ u → u < n + m → S' u = s := fun u hu _ => if_neg (by omega)
        have aC' := aC.cg hS1
        obtain ⟨sp', ta', l1, l2⟩ := zBuyC (n := n) (m := m) (s := s) (S := S') (W := W) (we := v.1.2.1) (by omega) (by omega) hS2 m 0 Z v.1.1 v.1.2.2.2.1 rfl (by omega) (by omega) (by rw [aC.2.1] at aC'; exact aC') (fun u hu => aC.2.2.2.2.1 u (by omega))
        have l1' : f_X0_purchase_L11 (nI s) (nI m) Z 0 (nI n) v.1.1 v.1.2.2.2.1 = some (nI (n + m), sp', ta') := l1
        have hzc : ∀ t, zc S' t (n + m) = zc S t n + if s = t then m else 0 := fun t => by
          unfold zc
          rw [zsm_app]
          have x1 : zsm (fun u => zid (S' u = t)) n = zsm (fun u => zid (S u = t)) n := zsm_congr (fun u hu => by rw [hS1 u hu])
          have x2 : zsm (fun i => zid (S' (n + i) = t)) m = zsm (fun _ => zid (s = t)) m := zsm_congr (fun u hu => by rw [hS2 _ (by omega) (by omega)])
          rw [x1, x2, zsm_const]
          unfold zid
          by_cases d : s = t
          · rw [if_pos d, if_pos d]; omega
          · rw [if_neg d, if_neg d]; omega
        have hzk : zk S' 1 (n + m) = zk S 1 n := by
          unfold zk
          rw [zsm_app]
          have x1 : zsm (fun u => zid (zpl (S' u) = 1)) n = zsm (fun u => zid (zpl (S u) = 1)) n := zsm_congr (fun u hu => by rw [hS1 u hu])
          have x2 : zsm (fun i => zid (zpl (S' (n + i)) = 1)) m = 0 := zsm_none (fun u hu => by
            rw [hS2 _ (by omega) (by omega)]
            unfold zid zpl; rw [if_pos hs', if_neg (by omega)])
          rw [x1, x2]; rfl
        have hzy : zsm Y (n + m) = zsm Y n := by
          rw [zsm_app, zsm_none (f := fun i => Y (n + i)) (fun i _ => g10 _ (by omega))]; rfl
        unfold f_X0_purchase
        simp only [l1', zob3, zob6, zpl2, zpl3, f_X0_spend]
        refine ⟨(sp', v.1.2.1, v.1.2.2.1, ta', nI (n + m), v.1.2.2.2.2.2.1, v.1.2.2.2.2.2.2.1, v.1.2.2.2.2.2.2.2.1, v.1.2.2.2.2.2.2.2.2.1, v.1.2.2.2.2.2.2.2.2.2.1, v.1.2.2.2.2.2.2.2.2.2.2.1, v.1.2.2.2.2.2.2.2.2.2.2.2.1 - 5 * nI m, v.1.2.2.2.2.2.2.2.2.2.2.2.2.1 + 5 * nI m, v.1.2.2.2.2.2.2.2.2.2.2.2.2.2.1, v.1.2.2.2.2.2.2.2.2.2.2.2.2.2.2.1, v.1.2.2.2.2.2.2.2.2.2.2.2.2.2.2.2), S', rfl, ⟨l2, ?_, ?_⟩, by rw [hzc, if_pos rfl], hzk⟩
        · refine ⟨fun k hk u => ?_, a.2.1.2⟩
          rw [a.2.1.1 k hk u]
          constructor
          · rintro ⟨x, y⟩; exact ⟨by omega, by rw [hS1 u x]; exact y⟩
          · rintro ⟨x, y⟩
            rcases Nat.lt_or_ge u n with z | z
            · exact ⟨z, by rw [← hS1 u z]; exact y⟩
            · rw [hS2 u z x] at y; omega
        · refine ⟨fun t ht => ?_, g1, ?_, ?_, g4, g5, g6, ?_, ?_, g9, fun u hu => g10 u (by omega), ?_, fun u hu hs2 => ?_⟩
          · have := g0 t ht
            refine ⟨this.1, this.2.1, ?_⟩
            rw [hzc]
            by_cases d : s = t
            · subst d; rw [if_pos rfl]; omega
            · rw [if_neg d]; omega
          · show v.1.2.2.2.2.2.2.2.2.2.2.2.1 - 5 * nI m = _
            rw [g2, zl5, zmul, zsub (by omega)]
          · show v.1.2.2.2.2.2.2.2.2.2.2.2.2.1 + 5 * nI m = _
            rw [g3, zl5, zmul, zadd]
          · rw [hzk]; omega
          · rw [hzk]; omega
          · rw [hzy]; exact g11
          · rcases Nat.lt_or_ge u n with z | z
            · rw [hS1 u z] at hs2; exact g12 u z hs2
            · rw [hS2 u z hu] at hs2; omega
theorem ySetR (ok : OK v) (a : yC n S W H T C P O R Y h r hs sn v.1) {s m : Nat} (hs' : s < 8) (hm1 : 1 ≤ m) (hm : m ≤ 20) :
    (m < zc S s n ∧ m_set v (nI s) (nI m) = some (-2, v)) ∨ (zc S s n ≤ m ∧ ∃ c', m_set v (nI s) (nI m) = some (nI (R s), yW v c') ∧ yC n S W H T C P O (zup R s m) Y h r hs sn c') := by
  have aC := a.1
  have hn := aC.1
  have hcl := zc_le S s n
  obtain ⟨g0, g1, g2, g3, g4, g5, g6, g7, g8, g9, g10, g11, g12⟩ := a.2.2
  have e1 : f_X6_outside (nI s) 0 7 = 0 := youtI (m := 7) (M := 7) rfl (by decide) (by omega)
  have f1 : f_X6_outside (nI m) 1 20 = 0 := yout1 (m := 20) (M := 20) rfl (by decide) hm1 hm
  have q8 : (nI s = 8) = False := by rw [zl8, zeq (by omega) (by omega)]; exact eq_false (by omega)
  have k1 : (nI m < nI (zc S s n)) = (m < zc S s n) := zlt (by omega) (by omega)
  unfold m_set
  rw [gO_in ok]
  unfold f_X6_set f_X0_settingError
  simp only [q8, e1, f1, zNum aC (show s < 24 by omega), k1, if_true, if_false]
  by_cases hA : m < zc S s n
  · left
    refine ⟨hA, ?_⟩
    simp only [hA, if_true]
    rw [if_neg (by decide)]; rfl
  · right
    refine ⟨by omega, ?_⟩
    simp only [hA, if_false, if_true]
    unfold f_X0_change
    simp only [q8, if_false, zpl3]
    rw [zat (by omega) (by omega), zput (by omega) (by omega), (g0 s hs').1]
    refine ⟨(v.1.1, v.1.2.1, v.1.2.2.1, v.1.2.2.2.1, v.1.2.2.2.2.1, upd v.1.2.2.2.2.2.1 s (nI m), v.1.2.2.2.2.2.2.1, v.1.2.2.2.2.2.2.2.1, v.1.2.2.2.2.2.2.2.2.1, v.1.2.2.2.2.2.2.2.2.2.1, v.1.2.2.2.2.2.2.2.2.2.2.1, v.1.2.2.2.2.2.2.2.2.2.2.2.1, v.1.2.2.2.2.2.2.2.2.2.2.2.2.1, v.1.2.2.2.2.2.2.2.2.2.2.2.2.2.1, v.1.2.2.2.2.2.2.2.2.2.2.2.2.2.2.1, v.1.2.2.2.2.2.2.2.2.2.2.2.2.2.2.2), rfl, aC, a.2.1, fun t ht => ?_, g1, g2, g3, g4, g5, g6, g7, g8, g9, g10, g11, g12⟩
    have := g0 t ht
    show upd v.1.2.2.2.2.2.1 s (nI m) t = nI (zup R s m t) ∧ zup R s m t ≤ 20 ∧ zc S t n ≤ zup R s m t
    by_cases d : t = s
    · subst d; rw [zus rfl, zup_s rfl]; exact ⟨rfl, hm, by omega⟩
    · rw [zun d, zup_n d]; exact this
theorem ySetQ (ok : OK v) (a : yC n S W H T C P O R Y h r hs sn v.1) {m : Nat} (hm : m ≤ 5) : ∃ c', m_set v 8 (nI m) = some (nI r, yW v c') ∧ yC n S W H T C P O R Y h m hs sn c' := by
  obtain ⟨g0, g1, g2, g3, g4, g5, g6, g7, g8, g9, g10, g11, g12⟩ := a.2.2
  have e1 : f_X6_outside (nI m) 0 5 = 0 := youtI (m := 5) (M := 5) rfl (by decide) (by omega)
  unfold m_set
  rw [gO_in ok]
  unfold f_X6_set f_X0_settingError f_X0_change
  simp only [e1, if_true, zpl3]
  rw [g4]
  exact ⟨(v.1.1, v.1.2.1, v.1.2.2.1, v.1.2.2.2.1, v.1.2.2.2.2.1, v.1.2.2.2.2.2.1, v.1.2.2.2.2.2.2.1, v.1.2.2.2.2.2.2.2.1, v.1.2.2.2.2.2.2.2.2.1, v.1.2.2.2.2.2.2.2.2.2.1, v.1.2.2.2.2.2.2.2.2.2.2.1, v.1.2.2.2.2.2.2.2.2.2.2.2.1, v.1.2.2.2.2.2.2.2.2.2.2.2.2.1, v.1.2.2.2.2.2.2.2.2.2.2.2.2.2.1, v.1.2.2.2.2.2.2.2.2.2.2.2.2.2.2.1, nI m), rfl, a.1, a.2.1, g0, g1, g2, g3, rfl, hm, g6, g7, g8, g9, g10, g11, g12⟩
end op
