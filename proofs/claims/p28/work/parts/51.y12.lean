section yB
variable {v : OV} {c : CV} {n : Nat} {S W : Nat → Nat} {H : Nat → Option Nat} {T C P O R Y : Nat → Nat} {h r hs sn : Nat} {sp we le ta : Nat → Int32} {num : Int32} {rooms pu sh ho pa : Nat → Int32} {hours house spent loans surges rate : Int32}
theorem yNth (aC : zRC n S W sp we ta num) {x p : Nat} (hx : x < 24) (hp : p < 1000) : ∀ k i b F, n - i = k → i ≤ n → n - i < F → b = zc S x i → b ≤ p → ∃ q, f_X5_nthAt_L5 sp num (nI x) (nI p) F (nI b) (nI i) = some (zev (-9) q) ∧ (zc S x n ≤ p → q = none) ∧ (p < zc S x n → ∃ u, q = some u ∧ u < n) := by
  obtain ⟨h0, rfl, h2, h3, h4, h5, h6, h7⟩ := aC
  intro k
  induction k with
  | zero =>
    intro i b F hk hi hF hb hbp
    obtain ⟨F, rfl⟩ : ∃ G, F = G + 1 := ⟨F - 1, by omega⟩
    have : i = n := by omega
    subst this
    refine ⟨none, ?_, fun _ => rfl, fun q => by omega⟩
    rw [f_X5_nthAt_L5]
    simp (disch := omega) only [zpl1, zpl2, zpl3, zob1, zob2, zob3, zlt, zeq, znn, zn9, zat, zput, zaddc, zag, zas, zl2, zl3, zl4, zl5, zl6, zl7, zl8, zl10, zl12, zl16, zl20, zl22, zl23, zl30, zl31, zl32, zl60, zl64, zl80, zl100, zl500, zl580, nI_1, z1I, zadd, if_true, if_false, Nat.lt_irrefl]
    rfl
  | succ k ih =>
    intro i b F hk hi hF hb hbp
    obtain ⟨F, rfl⟩ : ∃ G, F = G + 1 := ⟨F - 1, by omega⟩
    have hin : i < n := by omega
    have hS := h2 i hin
    have hz : zc S x (i + 1) = zc S x i + zid (S i = x) := rfl
    rw [f_X5_nthAt_L5]
    simp (disch := omega) only [zpl1, zpl2, zpl3, zob1, zob2, zob3, zlt, zeq, znn, zn9, zat, zput, zaddc, zag, zas, zl2, zl3, zl4, zl5, zl6, zl7, zl8, zl10, zl12, zl16, zl20, zl22, zl23, zl30, zl31, zl32, zl60, zl64, zl80, zl100, zl500, zl580, nI_1, z1I, zadd, if_true, if_false, hin, h5]
    by_cases d : S i = x
    · rw [zid_1 d] at hz
      simp only [d, if_true]
      by_cases e : b = p
      · simp only [e, if_true]
        have hle : zc S x (i + 1) ≤ zc S x n := by
          obtain ⟨q, rfl⟩ : ∃ q, n = i + 1 + q := ⟨n - (i + 1), by omega⟩
          have h9 := zsm_app (f := fun u => zid (S u = x)) (n := i + 1) (m := q)
          unfold zc; omega
        exact ⟨some i, rfl, fun q => by omega, fun _ => ⟨i, rfl, hin⟩⟩
      · simp only [e, if_false]
        exact ih (i + 1) (b + 1) F (by omega) (by omega) (by omega) (by omega) (by omega)
    · rw [zid_0 d] at hz
      simp only [d, if_false]
      exact ih (i + 1) b F (by omega) (by omega) (by omega) (by omega) hbp
theorem oV {Z : Nat} (hZ : 5000 < Z) (ok : OK v) (a : yC n S W H T C P O R Y h r hs sn v.1) {w p : Nat} (hw : w < 2) (hp : p < 1000) : ∃ q, m_inVan Z v (nI w) (nI p) = some (zev (-9) q) ∧ (zc S (20 + w) n ≤ p → q = none) ∧ (p < zc S (20 + w) n → ∃ u, q = some u ∧ u < n) := by
  have hn := a.1.1
  obtain ⟨q, h1, h2⟩ := yNth a.1 (x := 20 + w) (p := p) (by omega) hp n 0 0 Z rfl (by omega) (by omega) rfl (by omega)
  refine ⟨q, ?_, h2⟩
  have e1 : f_X6_outside (nI w) 0 1 = 0 := youtI (m := 1) (M := 1) rfl (by decide) (by omega)
  unfold m_inVan f_X6_inVan f_X5_nthAt
  rw [gO_in ok, e1, if_pos rfl, if_neg (nI_pos (by omega)), show (20 : Int32) + nI w = nI (20 + w) from nI_add 20 w]
  rw [show f_X5_nthAt_L5 v.1.1 v.1.2.2.2.2.1 (nI (20 + w)) (nI p) Z 0 0 = _ from h1, zob1]
theorem yUnlL {m s w : Nat} (hs' : s < 8) (hv : w < 2) (hm : m ≤ 10) : ∀ k i F mv S sp ta, n - i = k → i ≤ n → n - i < F → mv ≤ m → (mv < m → ∀ u, u < i → ¬ (S u = 20 + w ∧ W u < 32)) → m - mv ≤ zw S W (20 + w) n → yB n W H T C P O h we num pu sh ho pa S sp ta → ∃ S' sp' ta', f_X0_emptyVan_L6 we num (nI w) (nI s) (nI m) F (nI mv) (nI i) sp ta = some (sp', ta') ∧ yB n W H T C P O h we num pu sh ho pa S' sp' ta' ∧ (∀ u, S' u = S u ∨ (S u = 20 + w ∧ S' u = s)) ∧ zc S' s n = zc S s n + (m - mv) ∧ zk S' 2 n + (m - mv) = zk S 2 n := by
  intro k
  induction k with
  | zero =>
    intro i F mv S sp ta hk hi hF hmv hpre hz b
    obtain ⟨F, rfl⟩ : ∃ G, F = G + 1 := ⟨F - 1, by omega⟩
    have : i = n := by omega
    subst this
    have hn := b.1.1
    have hmm : mv = m := by
      rcases Nat.lt_or_ge mv m with q | q
      · have : zw S W (20 + w) i = 0 := zsm_none (fun u hu => zid_0 (hpre q u hu))
        omega
      · omega
    refine ⟨S, sp, ta, ?_, b, fun u => Or.inl rfl, by omega, by omega⟩
    rw [f_X0_emptyVan_L6, b.1.2.1]; simp (disch := omega) only [zpl1, zpl2, zpl3, zob1, zob2, zob3, zlt, zeq, znn, zn9, zat, zput, zaddc, zag, zas, zl2, zl3, zl4, zl5, zl6, zl7, zl8, zl10, zl12, zl16, zl20, zl22, zl23, zl30, zl31, zl32, zl60, zl64, zl80, zl100, zl500, zl580, nI_1, z1I, zadd, if_true, if_false, Nat.lt_irrefl]
  | succ k ih =>
    intro i F mv S sp ta hk hi hF hmv hpre hz b
    obtain ⟨F, rfl⟩ : ∃ G, F = G + 1 := ⟨F - 1, by omega⟩
    have hin : i < n := by omega
    have hn := b.1.1
    have hW := b.1.2.2.2.1 i
    have hSi := b.1.2.2.1 i hin
    have hsp := b.1.2.2.2.2.2.1
    have hbr : f_X5_isBroken we (nI i) = if W i < 32 then 0 else 1 := ziB (by omega) (b.1.2.2.2.2.2.2.1 i (by omega)) hW
    have e20 : (nI 20 + nI w : Int32) = nI (20 + w) := zadd _ _
    rw [f_X0_emptyVan_L6, b.1.2.1, hbr]
    simp (disch := omega) only [zpl1, zpl2, zpl3, zob1, zob2, zob3, zlt, zeq, znn, zn9, zat, zput, zaddc, zag, zas, zl2, zl3, zl4, zl5, zl6, zl7, zl8, zl10, zl12, zl16, zl20, zl22, zl23, zl30, zl31, zl32, zl60, zl64, zl80, zl100, zl500, zl580, nI_1, z1I, zadd, if_true, if_false, hin, hsp]
    by_cases hlt : mv < m
    · simp only [hlt, if_true]
      have hp := hpre hlt
      by_cases hc : S i = 20 + w
      · by_cases hd : W i < 32
        · have hb' := b.mv (u := i) (t := s) hin (by omega) (by omega) (by omega)
          have hzw := zw_up (S := S) (W := W) (u := i) (t := s) (s := 20 + w) hin hd
          have hzc := zc_up (S := S) (u := i) (t := s) (s := s) hin
          have hzk := zk_up (S := S) (u := i) (t := s) (p := 2) hin
          rw [zid_1 hc, zid_0 (show ¬ s = 20 + w by omega)] at hzw
          rw [zid_0 (show ¬ S i = s by omega), zid_1 rfl] at hzc
          rw [hc, yz2 hv, yz0 hs', zid_1 rfl, zid_0 (by decide)] at hzk
          simp only [hc, hd, if_true]
          have e21 : f_X5_move sp ta (nI i) (nI s) = ((f_X5_move sp ta (nI i) (nI s)).1, (f_X5_move sp ta (nI i) (nI s)).2) := rfl
          rw [e21, zpl2, zpl3, ← b.1.2.1]
          obtain ⟨S', sp', ta', l1, l2, l3, l4, l5⟩ := ih (i + 1) F (mv + 1) _ _ _ (by omega) (by omega) (by omega) (by omega) (fun _ u hu => by
            by_cases e : u = i
            · rw [e, zup_s rfl]; omega
            · rw [zup_n e]; exact hp u (by omega)) (by omega) hb'
          refine ⟨S', sp', ta', l1, l2, fun u => ?_, by omega, by omega⟩
          by_cases e : u = i
          · subst e
            rcases l3 u with q | q
            · rw [zup_s rfl] at q; exact Or.inr ⟨hc, q⟩
            · exact Or.inr ⟨hc, q.2⟩
          · have := l3 u
            rw [zup_n e] at this; exact this
        · simp only [hc, hd, if_true, if_false, z10]
          rw [zpl3, ← b.1.2.1]
          exact ih (i + 1) F mv _ _ _ (by omega) (by omega) (by omega) (by omega) (fun _ u hu => by
            by_cases e : u = i
            · rw [e]; exact fun q => hd q.2
            · exact hp u (by omega)) hz b
      · simp only [hc, if_false]
        rw [zpl3, ← b.1.2.1]
        exact ih (i + 1) F mv _ _ _ (by omega) (by omega) (by omega) (by omega) (fun _ u hu => by
            by_cases e : u = i
            · rw [e]; exact fun q => hc q.1
            · exact hp u (by omega)) hz b
    · simp only [hlt, if_false]
      rw [← b.1.2.1]
      exact ⟨S, sp, ta, rfl, b, fun u => Or.inl rfl, by omega, by omega⟩
theorem yUnload {Z w s m : Nat} (hZ : 5000 < Z) (ok : OK v) (a : yC n S W H T C P O R Y h r hs sn v.1) (hv : w < 2) (hs' : s < 8) (hm1 : 1 ≤ m) (hm : m ≤ 10) :
    m_unload Z v (nI w) (nI s) (nI m) = some (-2, v) ∨ (R s < zc S s n + m ∧ m_unload Z v (nI w) (nI s) (nI m) = some (-3, v)) ∨
    ∃ c' S', m_unload Z v (nI w) (nI s) (nI m) = some (nI (zc S' (20 + w) n), yW v c') ∧ yC n S' W H T C P O R Y h r hs sn c' ∧ zc S' s n = zc S s n + m ∧ zk S' 2 n + m = zk S 2 n := by
  have aC := a.1
  have hn := aC.1
  have hcl := zc_le S s n
  have hR := a.2.2.1 s hs'
  have e1 : f_X6_outside (nI w) 0 1 = 0 := youtI (m := 1) (M := 1) rfl (by decide) (by omega)
  have f1 : f_X6_outside (nI s) 0 7 = 0 := youtI (m := 7) (M := 7) rfl (by decide) (by omega)
  have d1 : f_X6_outside (nI m) 1 10 = 0 := yout1 (m := 10) (M := 10) rfl (by decide) hm1 hm
  have q20 : f_X5_wholeAt Z v.1.1 v.1.2.1 v.1.2.2.2.1 v.1.2.2.2.2.1 (20 + nI w) = some (nI (zw S W (20 + w) n)) := by
    rw [zl20, zadd, zWholeAt aC (by omega) (by omega), zwb]
  have hwl : zw S W (20 + w) n ≤ n := zsm_id n
  have k1 : (nI (zw S W (20 + w) n) < nI m) = (zw S W (20 + w) n < m) := zlt (by omega) (by omega)
  have hfr : f_X2_at 8 v.1.2.2.2.2.2.1 (nI s) - f_X5_numberAt v.1.2.2.2.1 (nI s) = nI (R s - zc S s n) := by
    rw [zat (by omega) (by omega), zNum aC (by omega), hR.1, zsub hR.2.2]
  have k2 : (nI (R s - zc S s n) < nI m) = (R s < zc S s n + m) := by
    rw [zlt (by omega) (by omega)]; apply propext; omega
  unfold m_unload
  rw [gO_in ok]
  unfold f_X6_unload f_X0_unloadingError f_X0_freeAt
  simp only [e1, f1, d1, q20, k1, k2, hfr, zob1, if_true]
  by_cases hA : zw S W (20 + w) n < m
  · left
    simp only [hA, if_true, zob1]
    rw [if_neg (by decide)]; rfl
  · right
    simp only [hA, if_false]
    by_cases hB : R s < zc S s n + m
    · left
      refine ⟨hB, ?_⟩
      simp only [hB, if_true, zob1]
      rw [if_neg (by decide)]; rfl
    · right
      simp only [hB, if_false, if_true, zob1]
      obtain ⟨S', sp', ta', l1, l2, l3, l4, l5⟩ := yUnlL (n := n) (W := W) (H := H) (T := T) (C := C) (P := P) (O := O) (h := h) (we := v.1.2.1) (num := v.1.2.2.2.2.1) (pu := v.1.2.2.2.2.2.2.1) (sh := v.1.2.2.2.2.2.2.2.1) (ho := v.1.2.2.2.2.2.2.2.2.1) (pa := v.1.2.2.2.2.2.2.2.2.2.1) (s := s) (w := w) (m := m) hs' hv hm n 0 Z 0 S v.1.1 v.1.2.2.2.1 rfl (by omega) (by omega) (by omega) (fun _ u hu => by omega) (by omega) ⟨aC, a.2.1⟩
      have l1' : f_X0_emptyVan_L6 v.1.2.1 v.1.2.2.2.2.1 (nI w) (nI s) (nI m) Z 0 0 v.1.1 v.1.2.2.2.1 = some (sp', ta') := l1
      have q21 : f_X5_numberAt ta' (20 + nI w) = nI (zc S' (20 + w) n) := by
        rw [zl20, zadd, zNum l2.1 (by omega)]
      unfold f_X0_emptyVan
      simp only [l1', zob2, q21, zob3]
      refine ⟨zTP v.1 sp' ta', S', rfl, yB.ct a l2 (fun t ht => ?_) ?_ (fun u hu hS2 => ?_), by omega, by omega⟩
      · by_cases d : t = s
        · subst d; omega
        · have h1 : zc S' t n ≤ zc S t n := zsm_mono (fun u _ => zid_mono (fun e => by
            rcases l3 u with q1 | q1
            · rw [← q1]; exact e
            · rw [q1.2] at e; omega))
          have := (a.2.2.1 t ht).2.2
          omega
      · refine zsm_congr (fun u _ => ?_)
        rcases l3 u with q1 | q1
        · rw [q1]
        · rw [q1.1, q1.2, yz0 hs', yz2 hv]; rfl
      · rcases l3 u with q1 | q1
        · rw [q1] at hS2; exact a.2.2.2.2.2.2.2.2.2.2.2.2.2.2 u hu hS2
        · rw [q1.2] at hS2; omega
end yB
