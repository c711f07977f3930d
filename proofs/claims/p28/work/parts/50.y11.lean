def zTP (c : CV) (sp ta : Nat → Int32) : CV := (sp, c.2.1, c.2.2.1, ta, c.2.2.2.2.1, c.2.2.2.2.2.1, c.2.2.2.2.2.2.1, c.2.2.2.2.2.2.2.1, c.2.2.2.2.2.2.2.2.1, c.2.2.2.2.2.2.2.2.2.1, c.2.2.2.2.2.2.2.2.2.2.1, c.2.2.2.2.2.2.2.2.2.2.2.1, c.2.2.2.2.2.2.2.2.2.2.2.2.1, c.2.2.2.2.2.2.2.2.2.2.2.2.2.1, c.2.2.2.2.2.2.2.2.2.2.2.2.2.2.1, c.2.2.2.2.2.2.2.2.2.2.2.2.2.2.2)
theorem zsm_mono {f g : Nat → Nat} {n : Nat} (h : ∀ i, i < n → f i ≤ g i) : zsm f n ≤ zsm g n := by
  induction n with
  | zero => exact Nat.le_refl _
  | succ n ih =>
    simp only [zsm]
    have h1 := ih (fun i hi => h i (by omega))
    have h2 := h n (by omega)
    omega
theorem zid_1 {p : Prop} [Decidable p] (h : p) : zid p = 1 := by unfold zid; rw [if_pos h]
theorem zid_0 {p : Prop} [Decidable p] (h : ¬ p) : zid p = 0 := by unfold zid; rw [if_neg h]
theorem zid_mono {p q : Prop} [Decidable p] [Decidable q] (h : p → q) : zid p ≤ zid q := by
  by_cases c : p
  · rw [zid_1 c, zid_1 (h c)]; exact Nat.le_refl _
  · rw [zid_0 c]; omega
def yB (n : Nat) (W : Nat → Nat) (H : Nat → Option Nat) (T C P O : Nat → Nat) (h : Nat) (we : Nat → Int32) (num : Int32) (pu sh ho pa : Nat → Int32) (S : Nat → Nat) (sp ta : Nat → Int32) : Prop :=
  zRC n S W sp we ta num ∧ yP n S H T C P O h pu sh ho pa
section yB
variable {v : OV} {c : CV} {n : Nat} {S W : Nat → Nat} {H : Nat → Option Nat} {T C P O R Y : Nat → Nat} {h r hs sn : Nat} {sp we le ta : Nat → Int32} {num : Int32} {rooms pu sh ho pa : Nat → Int32} {hours house spent loans surges rate : Int32}
theorem yB.mv (a : yB n W H T C P O h we num pu sh ho pa S sp ta) {u t : Nat} (hu : u < n) (h1 : ¬ (8 ≤ S u ∧ S u < 20)) (ht : t < 24) (h2 : ¬ (8 ≤ t ∧ t < 20)) : yB n W H T C P O h we num pu sh ho pa (zup S u t) (f_X5_move sp ta (nI u) (nI t)).1 (f_X5_move sp ta (nI u) (nI t)).2 := ⟨zMv a.1 hu ht, a.2.mv h1 h2⟩
theorem yB.ct {S' : Nat → Nat} {sp' ta' : Nat → Int32} (a : yC n S W H T C P O R Y h r hs sn c) (b : yB n W H T C P O h c.2.1 c.2.2.2.2.1 c.2.2.2.2.2.2.1 c.2.2.2.2.2.2.2.1 c.2.2.2.2.2.2.2.2.1 c.2.2.2.2.2.2.2.2.2.1 S' sp' ta') (h1 : ∀ t, t < 8 → zc S' t n ≤ R t) (h2 : zk S' 1 n = zk S 1 n) (h3 : ∀ u, u < n → S' u = 22 → 32 ≤ W u) : yC n S' W H T C P O R Y h r hs sn (zTP c sp' ta') := by
  obtain ⟨g0, g1, g2, g3, g4, g5, g6, g7, g8, g9, g10, g11, g12⟩ := a.2.2
  exact ⟨b.1, b.2, fun t ht => ⟨(g0 t ht).1, (g0 t ht).2.1, h1 t ht⟩, g1, g2, g3, g4, g5, g6, by rw [h2]; exact g7, by rw [h2]; exact g8, g9, g10, g11, h3⟩
theorem yLoadL {Z m s w : Nat} (hZ : 100 < Z) (hs' : s < 8) (hv : w < 2) (hm : m ≤ 10) : ∀ k i F acc S sp ta, m - i = k → i ≤ m → m - i < F → acc ≤ i → yB n W H T C P O h we num pu sh ho pa S sp ta → m - i ≤ zc S s n → ∃ S' sp' ta' q, f_X0_fillVan_L6 Z we num (nI w) (nI s) (nI m) F (nI acc) (nI i) sp ta = some (nI q, sp', ta') ∧ q ≤ m ∧ yB n W H T C P O h we num pu sh ho pa S' sp' ta' ∧ (∀ u, S' u = S u ∨ (S u = s ∧ S' u = 20 + w)) ∧ zc S' s n + (m - i) = zc S s n ∧ zk S' 2 n = zk S 2 n + (m - i) ∧ (0 < m - i → ∀ x, zwors S W s n = some x → S' x = 20 + w) := by
  intro k
  induction k with
  | zero =>
    intro i F acc S sp ta hk hi hF hacc b hc
    obtain ⟨F, rfl⟩ : ∃ G, F = G + 1 := ⟨F - 1, by omega⟩
    have : i = m := by omega
    subst this
    refine ⟨S, sp, ta, acc, ?_, hacc, b, fun u => Or.inl rfl, by omega, by omega, fun q => by omega⟩
    rw [f_X0_fillVan_L6]; simp (disch := omega) only [zpl1, zpl2, zpl3, zob1, zob2, zob3, zlt, zeq, znn, zn9, zat, zput, zaddc, zag, zas, zl2, zl3, zl4, zl5, zl6, zl7, zl8, zl10, zl12, zl16, zl20, zl22, zl23, zl30, zl31, zl32, zl60, zl64, zl80, zl100, zl500, zl580, nI_1, z1I, zadd, if_true, if_false, Nat.lt_irrefl]
  | succ k ih =>
    intro i F acc S sp ta hk hi hF hacc b hc
    obtain ⟨F, rfl⟩ : ∃ G, F = G + 1 := ⟨F - 1, by omega⟩
    have him : i < m := by omega
    have hn := b.1.1
    have hpos : 0 < zc S s n := by omega
    cases ho : zwors S W s n with
    | none => exact absurd (yWn.1 ho) (by omega)
    | some u =>
      have hu := zam_ok ho
      have hSu : S u = s := hu.2
      have hW := b.1.2.2.2.1 u
      have hb' := b.mv (u := u) (t := 20 + w) hu.1 (by omega) (by omega) (by omega)
      have hcu := zc_up (S := S) (u := u) (t := 20 + w) (s := s) hu.1
      have hku := zk_up (S := S) (u := u) (t := 20 + w) (p := 2) hu.1
      rw [zid_1 hSu, zid_0 (show ¬ 20 + w = s by omega)] at hcu
      rw [hSu, yz0 hs', yz2 hv, zid_0 (by decide), zid_1 rfl] at hku
      have hbr : f_X5_isBroken we (nI u) = if W u < 32 then 0 else 1 := ziB (by omega) (b.1.2.2.2.2.2.2.1 u (by omega)) hW
      have hlift : ∀ (S' : Nat → Nat), (∀ x, S' x = zup S u (20 + w) x ∨ (zup S u (20 + w) x = s ∧ S' x = 20 + w)) → (∀ x, S' x = S x ∨ (S x = s ∧ S' x = 20 + w)) ∧ S' u = 20 + w := fun S' q => by
        refine ⟨fun x => ?_, ?_⟩
        · by_cases e : x = u
          · subst e
            rcases q x with q1 | q1
            · rw [zup_s rfl] at q1; exact Or.inr ⟨hSu, q1⟩
            · exact Or.inr ⟨hSu, q1.2⟩
          · have := q x
            rw [zup_n e] at this; exact this
        · rcases q u with q1 | q1
          · rw [zup_s rfl] at q1; exact q1
          · exact q1.2
      rw [f_X0_fillVan_L6, zWorst b.1 hZ (by omega), ho]
      simp only [zev, zob1]
      rw [hbr]
      simp (disch := omega) only [zpl1, zpl2, zpl3, zob1, zob2, zob3, zlt, zeq, znn, zn9, zat, zput, zaddc, zag, zas, zl2, zl3, zl4, zl5, zl6, zl7, zl8, zl10, zl12, zl16, zl20, zl22, zl23, zl30, zl31, zl32, zl60, zl64, zl80, zl100, zl500, zl580, nI_1, z1I, zadd, if_true, if_false, him]
      have e20 : f_X5_move sp ta (nI u) (nI (20 + w)) = ((f_X5_move sp ta (nI u) (nI (20 + w))).1, (f_X5_move sp ta (nI u) (nI (20 + w))).2) := rfl
      rw [e20, zpl2]
      by_cases hc32 : W u < 32
      · simp only [hc32, if_true, Int32.add_zero]
        obtain ⟨S', sp', ta', q, l1, l2, l3, l4, l5, l6, -⟩ := ih (i + 1) F acc _ _ _ (by omega) (by omega) (by omega) (by omega) hb' (by omega)
        have hl := hlift S' l4
        exact ⟨S', sp', ta', q, l1, l2, l3, hl.1, by omega, by omega, fun _ x e => by cases e; exact hl.2⟩
      · simp only [hc32, if_false, z10]
        obtain ⟨S', sp', ta', q, l1, l2, l3, l4, l5, l6, -⟩ := ih (i + 1) F (acc + 1) _ _ _ (by omega) (by omega) (by omega) (by omega) hb' (by omega)
        have hl := hlift S' l4
        exact ⟨S', sp', ta', q, l1, l2, l3, hl.1, by omega, by omega, fun _ x e => by cases e; exact hl.2⟩
theorem yLoad {Z w s m : Nat} (hZ : 5000 < Z) (ok : OK v) (a : yC n S W H T C P O R Y h r hs sn v.1) (hv : w < 2) (hs' : s < 8) (hm1 : 1 ≤ m) (hm : m ≤ 10) :
    (zc S s n < m ∧ m_load Z v (nI w) (nI s) (nI m) = some (-2, v)) ∨ m_load Z v (nI w) (nI s) (nI m) = some (-3, v) ∨
    (m ≤ zc S s n ∧ ∃ c' S' q x, m_load Z v (nI w) (nI s) (nI m) = some (nI q, yW v c') ∧ q ≤ m ∧ yC n S' W H T C P O R Y h r hs sn c' ∧ zc S' s n + m = zc S s n ∧ zk S' 2 n = zk S 2 n + m ∧ zwors S W s n = some x ∧ x < n ∧ S' x = 20 + w) := by
  have aC := a.1
  have hn := aC.1
  have hcl := zc_le S s n
  have hcv := zc_le S (20 + w) n
  have e1 : f_X6_outside (nI w) 0 1 = 0 := youtI (m := 1) (M := 1) rfl (by decide) (by omega)
  have f1 : f_X6_outside (nI s) 0 7 = 0 := youtI (m := 7) (M := 7) rfl (by decide) (by omega)
  have d1 : f_X6_outside (nI m) 1 10 = 0 := yout1 (m := 10) (M := 10) rfl (by decide) hm1 hm
  have k1 : (nI (zc S s n) < nI m) = (zc S s n < m) := zlt (by omega) (by omega)
  have q20 : f_X5_numberAt v.1.2.2.2.1 (20 + nI w) = nI (zc S (20 + w) n) := by
    rw [zl20, zadd, zNum aC (by omega)]
  have k2 : ((10 : Int32) < nI (zc S (20 + w) n) + nI m) = (10 < zc S (20 + w) n + m) := by
    rw [zadd, zl10, zlt (by omega) (by omega)]
  unfold m_load
  rw [gO_in ok]
  unfold f_X6_load f_X0_loadingError
  simp only [e1, f1, d1, zNum aC (show s < 24 by omega), q20, k1, k2, if_true]
  by_cases hA : zc S s n < m
  · left
    refine ⟨hA, ?_⟩
    simp only [hA, if_true]
    rw [if_neg (by decide)]; rfl
  · right
    simp only [hA, if_false]
    by_cases hB : 10 < zc S (20 + w) n + m
    · left
      simp only [hB, if_true, zpl1]
      rw [if_neg (by decide)]; rfl
    · right
      refine ⟨by omega, ?_⟩
      simp only [hB, if_false, zpl1, z10, if_true]
      obtain ⟨S', sp', ta', q, l1, l2, l3, l4, l5, l6, l7⟩ := yLoadL (n := n) (W := W) (H := H) (T := T) (C := C) (P := P) (O := O) (h := h) (we := v.1.2.1) (num := v.1.2.2.2.2.1) (pu := v.1.2.2.2.2.2.2.1) (sh := v.1.2.2.2.2.2.2.2.1) (ho := v.1.2.2.2.2.2.2.2.2.1) (pa := v.1.2.2.2.2.2.2.2.2.2.1) (Z := Z) (by omega) hs' hv hm m 0 Z 0 S v.1.1 v.1.2.2.2.1 rfl (by omega) (by omega) (by omega) ⟨aC, a.2.1⟩ (by omega)
      have l1' : f_X0_fillVan_L6 Z v.1.2.1 v.1.2.2.2.2.1 (nI w) (nI s) (nI m) Z 0 0 v.1.1 v.1.2.2.2.1 = some (nI q, sp', ta') := l1
      cases ho : zwors S W s n with
      | none => exact absurd (yWn.1 ho) (by omega)
      | some x =>
        have hx := zam_ok ho
        unfold f_X0_fillVan
        rw [l1', zob3]
        refine ⟨zTP v.1 sp' ta', S', q, x, rfl, l2, yB.ct a l3 (fun t ht => ?_) ?_ (fun u hu hS2 => ?_), by omega, by omega, rfl, hx.1, l7 (by omega) x ho⟩
        · have h1 : zc S' t n ≤ zc S t n := zsm_mono (fun u _ => zid_mono (fun e => by
            rcases l4 u with q1 | q1
            · rw [← q1]; exact e
            · rw [q1.2] at e; omega))
          have := (a.2.2.1 t ht).2.2
          omega
        · refine zsm_congr (fun u _ => ?_)
          rcases l4 u with q1 | q1
          · rw [q1]
          · rw [q1.1, q1.2, yz0 hs', yz2 hv]; rfl
        · rcases l4 u with q1 | q1
          · rw [q1] at hS2; exact a.2.2.2.2.2.2.2.2.2.2.2.2.2.2 u hu hS2
          · rw [q1.2] at hS2; omega
end yB
