theorem yq0lt4 : (nI 0 < (4 : Int32)) = True := eq_true (by decide)
theorem yq0gt2 : ((2 : Int32) < nI 0) = False := eq_false (by decide)
theorem yq0e1 : (nI 0 = (1 : Int32)) = False := eq_false (by decide)
theorem yq0e3 : (nI 0 = (3 : Int32)) = False := eq_false (by decide)
theorem yq0e0 : (nI 0 = (0 : Int32)) = True := eq_true (by decide)
theorem yq1lt4 : (nI 1 < (4 : Int32)) = True := eq_true (by decide)
theorem yq1gt2 : ((2 : Int32) < nI 1) = False := eq_false (by decide)
theorem yq1e1 : (nI 1 = (1 : Int32)) = True := eq_true (by decide)
theorem yq1e3 : (nI 1 = (3 : Int32)) = False := eq_false (by decide)
theorem yq1e0 : (nI 1 = (0 : Int32)) = False := eq_false (by decide)
theorem yq2lt4 : (nI 2 < (4 : Int32)) = True := eq_true (by decide)
theorem yq2gt2 : ((2 : Int32) < nI 2) = False := eq_false (by decide)
theorem yq2e1 : (nI 2 = (1 : Int32)) = False := eq_false (by decide)
theorem yq2e3 : (nI 2 = (3 : Int32)) = False := eq_false (by decide)
theorem yq2e0 : (nI 2 = (0 : Int32)) = False := eq_false (by decide)
theorem yq3lt4 : (nI 3 < (4 : Int32)) = True := eq_true (by decide)
theorem yq3gt2 : ((2 : Int32) < nI 3) = True := eq_true (by decide)
theorem yq3e1 : (nI 3 = (1 : Int32)) = False := eq_false (by decide)
theorem yq3e3 : (nI 3 = (3 : Int32)) = True := eq_true (by decide)
theorem yq3e0 : (nI 3 = (0 : Int32)) = False := eq_false (by decide)
theorem yq4lt4 : (nI 4 < (4 : Int32)) = False := eq_false (by decide)
theorem yq4gt2 : ((2 : Int32) < nI 4) = True := eq_true (by decide)
theorem yq4e1 : (nI 4 = (1 : Int32)) = False := eq_false (by decide)
theorem yq4e3 : (nI 4 = (3 : Int32)) = False := eq_false (by decide)
theorem yq4e0 : (nI 4 = (0 : Int32)) = False := eq_false (by decide)
theorem yq10 : ((1 : Int32) = 0) = False := eq_false (by decide)
theorem yq01 : ((0 : Int32) = 1) = False := eq_false (by decide)
theorem yq11 : ((1 : Int32) = 1) = True := eq_true rfl
theorem yq00 : ((0 : Int32) = 0) = True := eq_true rfl
theorem yq99 : ((-9 : Int32) = -9) = True := eq_true rfl
theorem yq90 : ((-9 : Int32) < 0) = True := eq_true (by decide)
def zw (S W : Nat → Nat) (s n : Nat) : Nat := zsm (fun u => zid (S u = s ∧ W u < 32)) n
variable {n : Nat} {S W : Nat → Nat}
theorem zw_none {s : Nat} : zbest S W s n = none ↔ zw S W s n = 0 := by
  unfold zbest
  rw [zam_none]
  constructor
  · intro a; exact zsm_none (fun i hi => by unfold zid; rw [if_neg (a i hi)])
  · intro a i hi e
    have : 0 < zw S W s n := zsm_pos.2 ⟨i, hi, by simp [zid, e]⟩
    omega
theorem zw_up {s u t : Nat} (hu : u < n) (hW : W u < 32) : zw (zup S u t) W s n + zid (S u = s) = zw S W s n + zid (t = s) := by
  have := zsm_upd (f := fun v => zid (S v = s ∧ W v < 32)) (g := fun v => zid (zup S u t v = s ∧ W v < 32)) (n := n) (k := u) hu (fun i _ hne => by simp only [zup_n hne])
  simp only [zup_s, hW, and_true] at this
  exact this
theorem zwb (s : Nat) : zc S s n - zb S W s n = zw S W s n := by
  have : zw S W s n + zb S W s n = zc S s n := by
    unfold zw zb zc
    rw [← zsm_add]
    refine zsm_congr (fun u _ => ?_)
    unfold zid
    rcases Nat.lt_or_ge (W u) 32 with c | c
    · by_cases d : S u = s <;> simp [c, d, Nat.not_le.mpr c]
    · by_cases d : S u = s <;> simp [c, d, Nat.not_lt.mpr c]
  omega
theorem zam_least {ok : Nat → Prop} [∀ i, Decidable (ok i)] (f : Nat → Nat) {n m : Nat} (h : zam ok (fun u m => f u < f m) n = some m) : ∀ i, i < n → ok i → f m ≤ f i ∧ (f i = f m → m ≤ i) := by
  induction n generalizing m with
  | zero => cases h
  | succ n ih =>
    intro i hi hok
    unfold zam at h
    by_cases c : ok n ∧ ∀ m ∈ zam ok (fun u m => f u < f m) n, f n < f m
    · rw [if_pos c] at h
      cases h
      by_cases e : i = n
      · subst e; exact ⟨Nat.le_refl _, fun _ => Nat.le_refl _⟩
      · cases hz : zam ok (fun u m => f u < f m) n with
        | none => exact absurd hok (zam_none.1 hz i (by omega))
        | some m' =>
          have h1 := ih hz i (by omega) hok
          have h2 := c.2 m' hz
          exact ⟨by omega, fun e => by omega⟩
    · rw [if_neg c] at h
      by_cases e : i = n
      · subst e
        have h3 : ¬ f i < f m := fun q => c ⟨hok, fun m' hm' => by
          have : zam ok (fun u m => f u < f m) i = some m' := hm'
          rw [h] at this; cases this; exact q⟩
        have := (zam_ok h).1
        exact ⟨by omega, fun _ => by omega⟩
      · exact ih h i (by omega) hok
theorem zam_most {ok : Nat → Prop} [∀ i, Decidable (ok i)] (f : Nat → Nat) {n m : Nat} (h : zam ok (fun u m => f m < f u) n = some m) : ∀ i, i < n → ok i → f i ≤ f m ∧ (f i = f m → m ≤ i) := by
  induction n generalizing m with
  | zero => cases h
  | succ n ih =>
    intro i hi hok
    unfold zam at h
    by_cases c : ok n ∧ ∀ m ∈ zam ok (fun u m => f m < f u) n, f m < f n
    · rw [if_pos c] at h
      cases h
      by_cases e : i = n
      · subst e; exact ⟨Nat.le_refl _, fun _ => Nat.le_refl _⟩
      · cases hz : zam ok (fun u m => f m < f u) n with
        | none => exact absurd hok (zam_none.1 hz i (by omega))
        | some m' =>
          have h1 := ih hz i (by omega) hok
          have h2 := c.2 m' hz
          exact ⟨by omega, fun e => by omega⟩
    · rw [if_neg c] at h
      by_cases e : i = n
      · subst e
        have h3 : ¬ f m < f i := fun q => c ⟨hok, fun m' hm' => by
          have : zam ok (fun u m => f m < f u) i = some m' := hm'
          rw [h] at this; cases this; exact q⟩
        have := (zam_ok h).1
        exact ⟨by omega, fun _ => by omega⟩
      · exact ih h i (by omega) hok
theorem yBe {s i : Nat} (hi : i < n) (hs : S i = s) (hW : W i < 32) : ∃ b, zbest S W s n = some b ∧ b < n ∧ S b = s ∧ W b < 32 ∧ W b ≤ W i ∧ (W i = W b → b ≤ i) := by
  cases h : zbest S W s n with
  | none => exact absurd ⟨hs, hW⟩ (zam_none.1 h i hi)
  | some b =>
    have h1 := zam_ok h
    have h2 := zam_least W h i hi ⟨hs, hW⟩
    exact ⟨b, rfl, h1.1, h1.2.1, h1.2.2, h2.1, h2.2⟩
theorem yWo {s i : Nat} (hi : i < n) (hs : S i = s) : ∃ b, zwors S W s n = some b ∧ b < n ∧ S b = s ∧ W i ≤ W b ∧ (W i = W b → b ≤ i) := by
  cases h : zwors S W s n with
  | none => exact absurd hs (zam_none.1 h i hi)
  | some b =>
    have h1 := zam_ok h
    have h2 := zam_most W h i hi hs
    exact ⟨b, rfl, h1.1, h1.2, h2.1, h2.2⟩
theorem yWn {s : Nat} : zwors S W s n = none ↔ zc S s n = 0 := by
  unfold zwors
  rw [zam_none]
  constructor
  · intro a; exact zsm_none (fun i hi => by unfold zid; rw [if_neg (a i hi)])
  · intro a i hi e
    have : 0 < zc S s n := zsm_pos.2 ⟨i, hi, by simp [zid, e]⟩
    omega
theorem yBn {s : Nat} : zbest S W s n = none ↔ zb S W s n = zc S s n := by
  rw [zw_none]
  have := zwb (S := S) (W := W) (n := n) s
  have := zb_le S W s n
  omega
section pl
variable {v : OV} {n : Nat} {S W : Nat → Nat} {H : Nat → Option Nat} {T C P O R Y : Nat → Nat} {h r hs sn : Nat} {Z : Nat}
set_option maxHeartbeats 1000000 in
theorem yPl24 (hZ : 5000 < Z) (ok : OK v) (a : yC n S W H T C P O R Y h r hs sn v.1) {i : Nat} (hi : i < n) (F : Nat) (v2 v3 : Int32) (at_ in_ : Nat → Int32) : f_L_places_L24 Z v (nI n) (F + 1) v2 v3 (nI i) at_ in_ = f_L_places_L24 Z v (nI n) F (v2 + if S i ≠ 23 ∧ 32 ≤ W i then 1 else 0) (v3 + nI (Y i)) (nI (i + 1)) (upd at_ (zpl (S i)) (at_ (zpl (S i)) + 1)) (if S i < 8 then upd in_ (S i) (in_ (S i) + 1) else in_) := by
  have hn := a.1.1
  have hS := a.1.2.2.1 i hi
  have hW := a.1.2.2.2.1 i
  have e3 := oU3 ok a hi
  have q1 : (nI (W i) < 0) = False := znn (by omega)
  have q2 : ((64 : Int32) < nI (W i)) = False := by rw [zl64, zlt (by omega) (by omega)]; exact eq_false (by omega)
  have q3 : ((31 : Int32) < nI (W i)) = (31 < W i) := by rw [zl31, zlt (by omega) (by omega)]
  have q4 : (nI (W i) < (32 : Int32)) = (W i < 32) := by rw [zl32, zlt (by omega) (by omega)]
  have q9 : ∀ x : Nat, x < 1000 → (nI x = (-9 : Int32)) = False := fun x hx => zn9 (by omega)
  rw [f_L_places_L24, if_pos (nI_lt hi (by omega)), oU0 ok a hi, oU1 ok a hi, oU2 ok a hi, oU4 ok a hi, e3]
  simp only [zob1, q1, q2, q3, q4, if_false]
  rw [nI_1]
  have hcase : S i < 8 ∨ (8 ≤ S i ∧ S i < 20) ∨ (20 ≤ S i ∧ S i < 22) ∨ S i = 22 ∨ S i = 23 := by omega
  rcases hcase with c | c | c | c | c
  · have hz : zpl (S i) = 0 := by unfold zpl; rw [if_pos c]
    have hw : zwI (S i) = nI (S i) := by unfold zwI zwh; rw [if_pos (by omega), if_pos c]
    have g1 : aget 5 at_ (nI 0) = some (at_ 0) := zag (by omega) (by omega)
    have g2 : ∀ x, aset 5 at_ (nI 0) x = some (upd at_ 0 x) := fun x => zas (by omega) (by omega)
    have g3 : aget 8 in_ (nI (S i)) = some (in_ (S i)) := zag (by omega) (by omega)
    have g4 : ∀ x, aset 8 in_ (nI (S i)) x = some (upd in_ (S i) x) := fun x => zas (by omega) (by omega)
    obtain ⟨wo, w1, w2, w3, w4, w5⟩ := yWo (W := W) hi rfl
    have s4 := oS4 hZ ok a (s := S i) c
    have s3 := oS3 hZ ok a (s := S i) c
    rw [w1] at s4
    have uw := oU2 ok a w2
    have hWo := a.1.2.2.2.1 wo
    have f1 : (nI (W wo) < nI (W i)) = False := by rw [zlt (by omega) (by omega)]; exact eq_false (by omega)
    have f2 : (nI (W wo) = nI (W i)) = (W wo = W i) := zeq (by omega) (by omega)
    have f3 : (nI i < nI wo) = (i < wo) := zlt (by omega) (by omega)
    have s4' : m_stand Z v (nI (S i)) 4 = some (nI wo) := s4
    have hS23 : ¬ S i = 23 := by omega
    have q9' := q9 (S i) (by omega)
    rw [hz, hw]
    by_cases d : W i < 32
    · have d1 : ¬ 31 < W i := by omega
      have d2 : ¬ 32 ≤ W i := by omega
      obtain ⟨be, b1, b2, b3, b4, b5, b6⟩ := yBe (W := W) hi rfl d
      rw [b1] at s3
      have s3' : m_stand Z v (nI (S i)) 3 = some (nI be) := s3
      have ub := oU2 ok a b2
      have k1 : (nI be < 0) = False := znn (by omega)
      have k2 : (nI (W i) < nI (W be)) = False := by rw [zlt (by omega) (by omega)]; exact eq_false (by omega)
      have k3 : (nI (W be) = nI (W i)) = (W be = W i) := zeq (by omega) (by omega)
      have k4 : (nI i < nI be) = (i < be) := zlt (by omega) (by omega)
      simp only [g1, g2, g3, g4, s3', s4', ub, uw, zob1, zpl1, d, d1, d2, hS23, c, q9', f1, f2, f3, k1, k2, k3, k4, yq0lt4, yq0gt2, yq0e1, yq0e3, yq0e0, yq01, yq00, if_true, if_false, and_false, not_false_iff, Int32.add_zero]
      by_cases x1 : W be = W i
      · have x2 : ¬ i < be := by have := b6 x1.symm; omega
        by_cases x3 : W wo = W i
        · have x4 : ¬ i < wo := by have := w5 x3.symm; omega
          simp only [x1, x2, x3, x4, if_true, if_false]
        · simp only [x1, x2, x3, if_true, if_false]
      · by_cases x3 : W wo = W i
        · have x4 : ¬ i < wo := by have := w5 x3.symm; omega
          simp only [x1, x3, x4, if_true, if_false]
        · simp only [x1, x3, if_true, if_false]
    · have d1 : 31 < W i := by omega
      have d2 : 32 ≤ W i := by omega
      simp only [g1, g2, g3, g4, s3, s4', uw, zob1, zpl1, d, d1, d2, hS23, c, q9', f1, f2, f3, yq0lt4, yq0gt2, yq0e1, yq0e3, yq0e0, yq01, yq00, yq11, if_true, if_false, and_true, not_false_iff, ne_eq]
      by_cases x3 : W wo = W i
      · have x4 : ¬ i < wo := by have := w5 x3.symm; omega
        simp only [x3, x4, if_true, if_false]
      · simp only [x3, if_true, if_false]
  · have c8 : ¬ S i < 8 := by omega
    have hz : zpl (S i) = 1 := by unfold zpl; rw [if_neg c8, if_pos c.2]
    have hw : zwI (S i) = nI (S i - 8) := by unfold zwI zwh; rw [if_pos (by omega), if_neg c8, if_pos c.2]
    have g1 : aget 5 at_ (nI 1) = some (at_ 1) := zag (by omega) (by omega)
    have g2 : ∀ x, aset 5 at_ (nI 1) x = some (upd at_ 1 x) := fun x => zas (by omega) (by omega)
    have hH : H (S i - 8) = some i := (a.2.1.1 (S i - 8) (by omega) i).2 ⟨hi, by omega⟩
    have p1 := oP1 hZ ok a (k := S i - 8) (by omega)
    rw [hH] at p1
    have p1' : m_person Z v (nI (S i - 8)) 1 = some (nI i) := p1
    have hS23 : ¬ S i = 23 := by omega
    have q9' := q9 (S i - 8) (by omega)
    rw [hz, hw]
    by_cases d : W i < 32
    · have d1 : ¬ 31 < W i := by omega
      have d2 : ¬ 32 ≤ W i := by omega
      simp only [g1, g2, p1', zob1, zpl1, d, d1, d2, hS23, c8, q9', yq1lt4, yq1gt2, yq1e1, yq1e3, yq1e0, yq01, yq00, if_true, if_false, and_false, Int32.add_zero]
    · have d1 : 31 < W i := by omega
      have d2 : 32 ≤ W i := by omega
      simp only [g1, g2, p1', zob1, zpl1, d, d1, d2, hS23, c8, q9', yq1lt4, yq1gt2, yq1e1, yq1e3, yq1e0, yq01, yq00, yq11, if_true, if_false, and_true, not_false_iff, ne_eq]
  · have c8 : ¬ S i < 8 := by omega
    have hz : zpl (S i) = 2 := by unfold zpl; rw [if_neg c8, if_neg (by omega), if_pos c.2]
    have hw : zwI (S i) = nI (S i - 20) := by unfold zwI zwh; rw [if_pos c.2, if_neg c8, if_neg (by omega)]
    have g1 : aget 5 at_ (nI 2) = some (at_ 2) := zag (by omega) (by omega)
    have g2 : ∀ x, aset 5 at_ (nI 2) x = some (upd at_ 2 x) := fun x => zas (by omega) (by omega)
    have hS23 : ¬ S i = 23 := by omega
    have q9' := q9 (S i - 20) (by omega)
    rw [hz, hw]
    by_cases d : W i < 32
    · have d1 : ¬ 31 < W i := by omega
      have d2 : ¬ 32 ≤ W i := by omega
      simp only [g1, g2, zob1, zpl1, d, d1, d2, hS23, c8, q9', yq2lt4, yq2gt2, yq2e1, yq2e3, yq2e0, yq01, yq00, if_true, if_false, and_false, Int32.add_zero]
    · have d1 : 31 < W i := by omega
      have d2 : 32 ≤ W i := by omega
      simp only [g1, g2, zob1, zpl1, d, d1, d2, hS23, c8, q9', yq2lt4, yq2gt2, yq2e1, yq2e3, yq2e0, yq01, yq00, yq11, if_true, if_false, and_true, not_false_iff, ne_eq]
  · have c8 : ¬ S i < 8 := by omega
    have hz : zpl (S i) = 3 := by rw [c]; rfl
    have hw : zwI (S i) = -9 := by rw [c]; rfl
    have g1 : aget 5 at_ (nI 3) = some (at_ 3) := zag (by omega) (by omega)
    have g2 : ∀ x, aset 5 at_ (nI 3) x = some (upd at_ 3 x) := fun x => zas (by omega) (by omega)
    have hS23 : ¬ S i = 23 := by omega
    have d2 : 32 ≤ W i := a.2.2.2.2.2.2.2.2.2.2.2.2.2.2 i hi c
    have d1 : 31 < W i := by omega
    have d : ¬ W i < 32 := by omega
    rw [hz, hw]
    simp only [g1, g2, zob1, zpl1, d, d1, d2, hS23, c8, yq3lt4, yq3gt2, yq3e1, yq3e3, yq3e0, yq99, yq01, yq00, yq11, if_true, if_false, and_true, not_false_iff, ne_eq]
  · have c8 : ¬ S i < 8 := by omega
    have hz : zpl (S i) = 4 := by rw [c]; rfl
    have hw : zwI (S i) = -9 := by rw [c]; rfl
    have c23 : (S i = 23) = True := eq_true c
    have g1 : aget 5 at_ (nI 4) = some (at_ 4) := zag (by omega) (by omega)
    have g2 : ∀ x, aset 5 at_ (nI 4) x = some (upd at_ 4 x) := fun x => zas (by omega) (by omega)
    rw [hz, hw]
    by_cases d : W i < 32
    · have d1 : ¬ 31 < W i := by omega
      simp only [g1, g2, zob1, zpl1, d, d1, c23, c8, yq4lt4, yq4gt2, yq4e1, yq4e3, yq4e0, yq99, yq01, yq00, yq11, if_true, if_false, ne_eq, not_true, false_and, Int32.add_zero]
    · have d1 : 31 < W i := by omega
      simp only [g1, g2, zob1, zpl1, d, d1, c23, c8, yq4lt4, yq4gt2, yq4e1, yq4e3, yq4e0, yq99, yq01, yq00, yq11, if_true, if_false, ne_eq, not_true, false_and, Int32.add_zero]
end pl
