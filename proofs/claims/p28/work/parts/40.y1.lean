theorem zob1 {t0 g : Type} (x0 : t0) (k : t0 → Option g) : ob1 (some (x0)) k = k x0 := rfl
theorem zpl1 {t0 g : Type} (x0 : t0) (k : t0 → g) : pl1 (x0) k = k x0 := rfl
theorem zob2 {t0 t1 g : Type} (x0 : t0) (x1 : t1) (k : t0 → t1 → Option g) : ob2 (some (x0, x1)) k = k x0 x1 := rfl
theorem zpl2 {t0 t1 g : Type} (x0 : t0) (x1 : t1) (k : t0 → t1 → g) : pl2 (x0, x1) k = k x0 x1 := rfl
theorem zob3 {t0 t1 t2 g : Type} (x0 : t0) (x1 : t1) (x2 : t2) (k : t0 → t1 → t2 → Option g) : ob3 (some (x0, x1, x2)) k = k x0 x1 x2 := rfl
theorem zpl3 {t0 t1 t2 g : Type} (x0 : t0) (x1 : t1) (x2 : t2) (k : t0 → t1 → t2 → g) : pl3 (x0, x1, x2) k = k x0 x1 x2 := rfl
theorem zob4 {t0 t1 t2 t3 g : Type} (x0 : t0) (x1 : t1) (x2 : t2) (x3 : t3) (k : t0 → t1 → t2 → t3 → Option g) : ob4 (some (x0, x1, x2, x3)) k = k x0 x1 x2 x3 := rfl
theorem zpl4 {t0 t1 t2 t3 g : Type} (x0 : t0) (x1 : t1) (x2 : t2) (x3 : t3) (k : t0 → t1 → t2 → t3 → g) : pl4 (x0, x1, x2, x3) k = k x0 x1 x2 x3 := rfl
theorem zob5 {t0 t1 t2 t3 t4 g : Type} (x0 : t0) (x1 : t1) (x2 : t2) (x3 : t3) (x4 : t4) (k : t0 → t1 → t2 → t3 → t4 → Option g) : ob5 (some (x0, x1, x2, x3, x4)) k = k x0 x1 x2 x3 x4 := rfl
theorem zpl5 {t0 t1 t2 t3 t4 g : Type} (x0 : t0) (x1 : t1) (x2 : t2) (x3 : t3) (x4 : t4) (k : t0 → t1 → t2 → t3 → t4 → g) : pl5 (x0, x1, x2, x3, x4) k = k x0 x1 x2 x3 x4 := rfl
theorem zob6 {t0 t1 t2 t3 t4 t5 g : Type} (x0 : t0) (x1 : t1) (x2 : t2) (x3 : t3) (x4 : t4) (x5 : t5) (k : t0 → t1 → t2 → t3 → t4 → t5 → Option g) : ob6 (some (x0, x1, x2, x3, x4, x5)) k = k x0 x1 x2 x3 x4 x5 := rfl
theorem zpl6 {t0 t1 t2 t3 t4 t5 g : Type} (x0 : t0) (x1 : t1) (x2 : t2) (x3 : t3) (x4 : t4) (x5 : t5) (k : t0 → t1 → t2 → t3 → t4 → t5 → g) : pl6 (x0, x1, x2, x3, x4, x5) k = k x0 x1 x2 x3 x4 x5 := rfl
theorem zob7 {t0 t1 t2 t3 t4 t5 t6 g : Type} (x0 : t0) (x1 : t1) (x2 : t2) (x3 : t3) (x4 : t4) (x5 : t5) (x6 : t6) (k : t0 → t1 → t2 → t3 → t4 → t5 → t6 → Option g) : ob7 (some (x0, x1, x2, x3, x4, x5, x6)) k = k x0 x1 x2 x3 x4 x5 x6 := rfl
theorem zpl7 {t0 t1 t2 t3 t4 t5 t6 g : Type} (x0 : t0) (x1 : t1) (x2 : t2) (x3 : t3) (x4 : t4) (x5 : t5) (x6 : t6) (k : t0 → t1 → t2 → t3 → t4 → t5 → t6 → g) : pl7 (x0, x1, x2, x3, x4, x5, x6) k = k x0 x1 x2 x3 x4 x5 x6 := rfl
theorem zob8 {t0 t1 t2 t3 t4 t5 t6 t7 g : Type} (x0 : t0) (x1 : t1) (x2 : t2) (x3 : t3) (x4 : t4) (x5 : t5) (x6 : t6) (x7 : t7) (k : t0 → t1 → t2 → t3 → t4 → t5 → t6 → t7 → Option g) : ob8 (some (x0, x1, x2, x3, x4, x5, x6, x7)) k = k x0 x1 x2 x3 x4 x5 x6 x7 := rfl
theorem zpl8 {t0 t1 t2 t3 t4 t5 t6 t7 g : Type} (x0 : t0) (x1 : t1) (x2 : t2) (x3 : t3) (x4 : t4) (x5 : t5) (x6 : t6) (x7 : t7) (k : t0 → t1 → t2 → t3 → t4 → t5 → t6 → t7 → g) : pl8 (x0, x1, x2, x3, x4, x5, x6, x7) k = k x0 x1 x2 x3 x4 x5 x6 x7 := rfl
theorem zob9 {t0 t1 t2 t3 t4 t5 t6 t7 t8 g : Type} (x0 : t0) (x1 : t1) (x2 : t2) (x3 : t3) (x4 : t4) (x5 : t5) (x6 : t6) (x7 : t7) (x8 : t8) (k : t0 → t1 → t2 → t3 → t4 → t5 → t6 → t7 → t8 → Option g) : ob9 (some (x0, x1, x2, x3, x4, x5, x6, x7, x8)) k = k x0 x1 x2 x3 x4 x5 x6 x7 x8 := rfl
theorem zpl9 {t0 t1 t2 t3 t4 t5 t6 t7 t8 g : Type} (x0 : t0) (x1 : t1) (x2 : t2) (x3 : t3) (x4 : t4) (x5 : t5) (x6 : t6) (x7 : t7) (x8 : t8) (k : t0 → t1 → t2 → t3 → t4 → t5 → t6 → t7 → t8 → g) : pl9 (x0, x1, x2, x3, x4, x5, x6, x7, x8) k = k x0 x1 x2 x3 x4 x5 x6 x7 x8 := rfl
theorem zob10 {t0 t1 t2 t3 t4 t5 t6 t7 t8 t9 g : Type} (x0 : t0) (x1 : t1) (x2 : t2) (x3 : t3) (x4 : t4) (x5 : t5) (x6 : t6) (x7 : t7) (x8 : t8) (x9 : t9) (k : t0 → t1 → t2 → t3 → t4 → t5 → t6 → t7 → t8 → t9 → Option g) : ob10 (some (x0, x1, x2, x3, x4, x5, x6, x7, x8, x9)) k = k x0 x1 x2 x3 x4 x5 x6 x7 x8 x9 := rfl
theorem zpl10 {t0 t1 t2 t3 t4 t5 t6 t7 t8 t9 g : Type} (x0 : t0) (x1 : t1) (x2 : t2) (x3 : t3) (x4 : t4) (x5 : t5) (x6 : t6) (x7 : t7) (x8 : t8) (x9 : t9) (k : t0 → t1 → t2 → t3 → t4 → t5 → t6 → t7 → t8 → t9 → g) : pl10 (x0, x1, x2, x3, x4, x5, x6, x7, x8, x9) k = k x0 x1 x2 x3 x4 x5 x6 x7 x8 x9 := rfl
theorem zob11 {t0 t1 t2 t3 t4 t5 t6 t7 t8 t9 t10 g : Type} (x0 : t0) (x1 : t1) (x2 : t2) (x3 : t3) (x4 : t4) (x5 : t5) (x6 : t6) (x7 : t7) (x8 : t8) (x9 : t9) (x10 : t10) (k : t0 → t1 → t2 → t3 → t4 → t5 → t6 → t7 → t8 → t9 → t10 → Option g) : ob11 (some (x0, x1, x2, x3, x4, x5, x6, x7, x8, x9, x10)) k = k x0 x1 x2 x3 x4 x5 x6 x7 x8 x9 x10 := rfl
theorem zpl11 {t0 t1 t2 t3 t4 t5 t6 t7 t8 t9 t10 g : Type} (x0 : t0) (x1 : t1) (x2 : t2) (x3 : t3) (x4 : t4) (x5 : t5) (x6 : t6) (x7 : t7) (x8 : t8) (x9 : t9) (x10 : t10) (k : t0 → t1 → t2 → t3 → t4 → t5 → t6 → t7 → t8 → t9 → t10 → g) : pl11 (x0, x1, x2, x3, x4, x5, x6, x7, x8, x9, x10) k = k x0 x1 x2 x3 x4 x5 x6 x7 x8 x9 x10 := rfl
theorem zob12 {t0 t1 t2 t3 t4 t5 t6 t7 t8 t9 t10 t11 g : Type} (x0 : t0) (x1 : t1) (x2 : t2) (x3 : t3) (x4 : t4) (x5 : t5) (x6 : t6) (x7 : t7) (x8 : t8) (x9 : t9) (x10 : t10) (x11 : t11) (k : t0 → t1 → t2 → t3 → t4 → t5 → t6 → t7 → t8 → t9 → t10 → t11 → Option g) : ob12 (some (x0, x1, x2, x3, x4, x5, x6, x7, x8, x9, x10, x11)) k = k x0 x1 x2 x3 x4 x5 x6 x7 x8 x9 x10 x11 := rfl
theorem zpl12 {t0 t1 t2 t3 t4 t5 t6 t7 t8 t9 t10 t11 g : Type} (x0 : t0) (x1 : t1) (x2 : t2) (x3 : t3) (x4 : t4) (x5 : t5) (x6 : t6) (x7 : t7) (x8 : t8) (x9 : t9) (x10 : t10) (x11 : t11) (k : t0 → t1 → t2 → t3 → t4 → t5 → t6 → t7 → t8 → t9 → t10 → t11 → g) : pl12 (x0, x1, x2, x3, x4, x5, x6, x7, x8, x9, x10, x11) k = k x0 x1 x2 x3 x4 x5 x6 x7 x8 x9 x10 x11 := rfl
theorem zob13 {t0 t1 t2 t3 t4 t5 t6 t7 t8 t9 t10 t11 t12 g : Type} (x0 : t0) (x1 : t1) (x2 : t2) (x3 : t3) (x4 : t4) (x5 : t5) (x6 : t6) (x7 : t7) (x8 : t8) (x9 : t9) (x10 : t10) (x11 : t11) (x12 : t12) (k : t0 → t1 → t2 → t3 → t4 → t5 → t6 → t7 → t8 → t9 → t10 → t11 → t12 → Option g) : ob13 (some (x0, x1, x2, x3, x4, x5, x6, x7, x8, x9, x10, x11, x12)) k = k x0 x1 x2 x3 x4 x5 x6 x7 x8 x9 x10 x11 x12 := rfl
theorem zpl13 {t0 t1 t2 t3 t4 t5 t6 t7 t8 t9 t10 t11 t12 g : Type} (x0 : t0) (x1 : t1) (x2 : t2) (x3 : t3) (x4 : t4) (x5 : t5) (x6 : t6) (x7 : t7) (x8 : t8) (x9 : t9) (x10 : t10) (x11 : t11) (x12 : t12) (k : t0 → t1 → t2 → t3 → t4 → t5 → t6 → t7 → t8 → t9 → t10 → t11 → t12 → g) : pl13 (x0, x1, x2, x3, x4, x5, x6, x7, x8, x9, x10, x11, x12) k = k x0 x1 x2 x3 x4 x5 x6 x7 x8 x9 x10 x11 x12 := rfl
theorem zlt {a b : Nat} (ha : a < 1000000) (hb : b < 1000000) : (nI a < nI b) = (a < b) := propext (nI_ltI (by omega) (by omega))
theorem zle {a b : Nat} (ha : a < 1000000) (hb : b < 1000000) : (nI a ≤ nI b) = (a ≤ b) := propext (nI_leI (by omega) (by omega))
theorem zeq {a b : Nat} (ha : a < 1000000) (hb : b < 1000000) : (nI a = nI b) = (a = b) := propext (nI_eq (by omega) (by omega))
theorem znn {a : Nat} (ha : a < 1000000) : (nI a < 0) = False := eq_false (nI_pos (by omega))
theorem zn9 {a : Nat} (ha : a < 1000000) : (nI a = -9) = False := eq_false (fun h => by have := congrArg Int32.toInt h; rw [nI_toInt (by omega)] at this; simp at this)
theorem zn1 {a : Nat} (ha : a < 1000000) : (nI a = -1) = False := eq_false (fun h => by have := congrArg Int32.toInt h; rw [nI_toInt (by omega)] at this; simp at this)
theorem zadd (a b : Nat) : nI a + nI b = nI (a + b) := nI_add a b
theorem zmul (a b : Nat) : nI a * nI b = nI (a * b) := by simp [nI]
theorem zsub {a b : Nat} (h : b ≤ a) : nI a - nI b = nI (a - b) := by
  have : nI (a - b) + nI b = nI a := by rw [nI_add]; congr 1; omega
  rw [← this]; simp
theorem zat {N u : Nat} {c : Nat → Int32} (h : u < N) (hN : N < 1000000) : f_X2_at N c (nI u) = c u := by
  unfold f_X2_at
  rw [if_neg (nI_pos (by omega)), if_pos (nI_lt h (by omega)), nI_clamp (by omega)]
theorem zput {N u : Nat} {c : Nat → Int32} {x : Int32} (h : u < N) (hN : N < 1000000) : f_X2_put N c (nI u) x = upd c u x := by
  unfold f_X2_put
  rw [if_neg (nI_pos (by omega)), if_pos (nI_lt h (by omega)), nI_clamp (by omega)]
theorem zaddc {N u : Nat} {c : Nat → Int32} {x : Int32} (h : u < N) (hN : N < 1000000) : f_X2_add N c (nI u) x = upd c u (c u + x) := by
  unfold f_X2_add
  rw [if_neg (nI_pos (by omega)), if_pos (nI_lt h (by omega)), nI_clamp (by omega)]
theorem zag {N u : Nat} {c : Nat → Int32} (h : u < N) (hN : N < 1000000) : aget N c (nI u) = some (c u) := by
  unfold aget
  rw [if_neg (nI_in h (by omega)), nI_clamp (by omega)]
theorem zas {N u : Nat} {c : Nat → Int32} {x : Int32} (h : u < N) (hN : N < 1000000) : aset N c (nI u) x = some (upd c u x) := by
  unfold aset
  rw [if_neg (nI_in h (by omega)), nI_clamp (by omega)]
theorem zus {f : Nat → Int32} {k j : Nat} {x : Int32} (h : j = k) : upd f k x j = x := by subst h; exact pk_us
theorem zun {f : Nat → Int32} {k j : Nat} {x : Int32} (h : j ≠ k) : upd f k x j = f j := pk_un h
/-- a loop that counts up -/
theorem zloop {α β : Type} (L : Nat → α → Int32 → Option β) (a : Nat → α) (n : Nat) (b : β) (hstop : ∀ F, L (F + 1) (a n) (nI n) = some b) (hstep : ∀ F i, i < n → L (F + 1) (a i) (nI i) = L F (a (i + 1)) (nI (i + 1))) : ∀ k i F, n - i = k → i ≤ n → n - i < F → L F (a i) (nI i) = some b := by
  intro k
  induction k with
  | zero =>
    intro i F hk hi hF
    obtain ⟨F, rfl⟩ : ∃ G, F = G + 1 := ⟨F - 1, by omega⟩
    have : i = n := by omega
    subst this
    exact hstop F
  | succ k ih =>
    intro i F hk hi hF
    obtain ⟨F, rfl⟩ : ∃ G, F = G + 1 := ⟨F - 1, by omega⟩
    rw [hstep F i (by omega)]
    exact ih (i + 1) F (by omega) (by omega) (by omega)
theorem zloop0 {α β : Type} (L : Nat → α → Int32 → Option β) (a : Nat → α) (n : Nat) (b : β) {F : Nat} (hF : n < F) (hstop : ∀ F, L (F + 1) (a n) (nI n) = some b) (hstep : ∀ F i, i < n → L (F + 1) (a i) (nI i) = L F (a (i + 1)) (nI (i + 1))) : L F (a 0) (nI 0) = some b :=
  zloop L a n b hstop hstep n 0 F rfl (by omega) (by omega)
/-- sums and best ones of numbers 0 .. n - 1 -/
def zsm (f : Nat → Nat) : Nat → Nat
  | 0 => 0
  | n + 1 => zsm f n + f n
def zam (ok : Nat → Prop) (lt : Nat → Nat → Prop) [∀ i, Decidable (ok i)] [∀ i j, Decidable (lt i j)] : Nat → Option Nat
  | 0 => none
  | n + 1 => if ok n ∧ (∀ m ∈ zam ok lt n, lt n m) then some n else zam ok lt n
def zev (d : Int32) : Option Nat → Int32
  | none => d
  | some u => nI u
def zid (p : Prop) [Decidable p] : Nat := if p then 1 else 0
theorem zsm_le {f : Nat → Nat} {b n : Nat} (h : ∀ i, i < n → f i ≤ b) : zsm f n ≤ n * b := by
  induction n with
  | zero => simp [zsm]
  | succ n ih =>
    have h1 := ih (fun i hi => h i (by omega))
    have h2 := h n (by omega)
    simp only [zsm, Nat.add_mul, Nat.one_mul]
    omega
theorem zsm_congr {f g : Nat → Nat} {n : Nat} (h : ∀ i, i < n → f i = g i) : zsm f n = zsm g n := by
  induction n with
  | zero => rfl
  | succ n ih => simp only [zsm]; rw [ih (fun i hi => h i (by omega)), h n (by omega)]
theorem zid_le (p : Prop) [Decidable p] : zid p ≤ 1 := by unfold zid; split <;> omega
theorem zsm_id {p : Nat → Prop} [∀ i, Decidable (p i)] (n : Nat) : zsm (fun u => zid (p u)) n ≤ n := by
  have := zsm_le (f := fun u => zid (p u)) (b := 1) (n := n) (fun i _ => zid_le _)
  omega
theorem zsm_pos {f : Nat → Nat} {n : Nat} : 0 < zsm f n ↔ ∃ i, i < n ∧ 0 < f i := by
  induction n with
  | zero => simp [zsm]
  | succ n ih =>
    simp only [zsm]
    constructor
    · intro h
      rcases Nat.lt_or_ge 0 (zsm f n) with h1 | h1
      · obtain ⟨i, h2, h3⟩ := ih.1 h1; exact ⟨i, by omega, h3⟩
      · exact ⟨n, by omega, by omega⟩
    · rintro ⟨i, h2, h3⟩
      rcases Nat.lt_or_ge i n with h1 | h1
      · have := ih.2 ⟨i, h1, h3⟩; omega
      · have : i = n := by omega
        subst this; omega
theorem zsm_add (f g : Nat → Nat) (n : Nat) : zsm (fun i => f i + g i) n = zsm f n + zsm g n := by
  induction n with
  | zero => rfl
  | succ n ih => simp only [zsm]; rw [ih]; omega
theorem zsm_0 (n : Nat) : zsm (fun _ => 0) n = 0 := by
  induction n with
  | zero => rfl
  | succ n ih => simp only [zsm]; omega
theorem zsm_swap (f : Nat → Nat → Nat) (n m : Nat) : zsm (fun i => zsm (fun j => f i j) m) n = zsm (fun j => zsm (fun i => f i j) n) m := by
  induction n with
  | zero => simp only [zsm]; rw [zsm_0]
  | succ n ih => simp only [zsm]; rw [ih, zsm_add]
/-- a sum with one place that is not nothing -/
theorem zsm_one {f : Nat → Nat} {n k : Nat} (hk : k < n) (h : ∀ i, i < n → i ≠ k → f i = 0) : zsm f n = f k := by
  induction n with
  | zero => omega
  | succ n ih =>
    simp only [zsm]
    rcases Nat.lt_or_ge k n with h1 | h1
    · rw [ih h1 (fun i hi hne => h i (by omega) hne), h n (by omega) (by omega)]; omega
    · have : k = n := by omega
      subst this
      rw [zsm_congr (g := fun _ => 0) (fun i hi => h i (by omega) (by omega)), zsm_0]; omega
theorem zsm_none {f : Nat → Nat} {n : Nat} (h : ∀ i, i < n → f i = 0) : zsm f n = 0 := by
  rw [zsm_congr h, zsm_0]
/-- a sum of which one place changes -/
theorem zsm_upd {f g : Nat → Nat} {n k : Nat} (hk : k < n) (h : ∀ i, i < n → i ≠ k → g i = f i) : zsm g n + f k = zsm f n + g k := by
  induction n with
  | zero => omega
  | succ n ih =>
    simp only [zsm]
    rcases Nat.lt_or_ge k n with h1 | h1
    · have h2 := ih h1 (fun i hi hne => h i (by omega) hne)
      have h3 := h n (by omega) (by omega)
      omega
    · have : k = n := by omega
      subst this
      rw [zsm_congr (f := g) (g := f) (fun i hi => h i (by omega) (by omega))]; omega
section am
theorem zam_ok {ok : Nat → Prop} {lt : Nat → Nat → Prop} [∀ i, Decidable (ok i)] [∀ i j, Decidable (lt i j)] {n m : Nat} (h : zam ok lt n = some m) : m < n ∧ ok m := by
  induction n with
  | zero => cases h
  | succ n ih =>
    unfold zam at h
    split at h
    · rename_i hc
      cases h; exact ⟨by omega, hc.1⟩
    · have := ih h; exact ⟨by omega, this.2⟩
theorem zam_none {ok : Nat → Prop} {lt : Nat → Nat → Prop} [∀ i, Decidable (ok i)] [∀ i j, Decidable (lt i j)] {n : Nat} : zam ok lt n = none ↔ ∀ i, i < n → ¬ ok i := by
  induction n with
  | zero => simp [zam]
  | succ n ih =>
    unfold zam
    split
    · rename_i hc
      simp only [reduceCtorEq, false_iff]
      intro h
      exact h n (by omega) hc.1
    · rename_i hc
      rw [ih]
      constructor
      · intro h i hi hok
        rcases Nat.lt_or_ge i n with h1 | h1
        · exact h i h1 hok
        · have : i = n := by omega
          subst this
          apply hc
          refine ⟨hok, ?_⟩
          rw [ih.2 h]
          intro m hm; cases hm
      · intro h i hi; exact h i (by omega)
theorem zam_step {ok : Nat → Prop} {lt : Nat → Nat → Prop} [∀ i, Decidable (ok i)] [∀ i j, Decidable (lt i j)] {n : Nat} : zam ok lt (n + 1) = if ok n ∧ (∀ m ∈ zam ok lt n, lt n m) then some n else zam ok lt n := rfl
end am
theorem zam_congr {ok ok' : Nat → Prop} {lt lt' : Nat → Nat → Prop} [∀ i, Decidable (ok i)] [∀ i j, Decidable (lt i j)] [∀ i, Decidable (ok' i)] [∀ i j, Decidable (lt' i j)] {n : Nat} (h1 : ∀ i, i < n → (ok i ↔ ok' i)) (h2 : ∀ i j, i < n → j < n → (lt i j ↔ lt' i j)) : zam ok lt n = zam ok' lt' n := by
  induction n with
  | zero => rfl
  | succ n ih =>
    have h := ih (fun i hi => h1 i (by omega)) (fun i j hi hj => h2 i j (by omega) (by omega))
    unfold zam
    have h3 : (ok n ∧ ∀ m ∈ zam ok lt n, lt n m) ↔ (ok' n ∧ ∀ m ∈ zam ok' lt' n, lt' n m) := by
      rw [h, h1 n (by omega)]
      constructor
      · rintro ⟨a, b⟩
        exact ⟨a, fun m hm => (h2 n m (by omega) (by have := (zam_ok hm).1; omega)).1 (b m hm)⟩
      · rintro ⟨a, b⟩
        exact ⟨a, fun m hm => (h2 n m (by omega) (by have := (zam_ok hm).1; omega)).2 (b m hm)⟩
    by_cases hc : ok' n ∧ ∀ m ∈ zam ok' lt' n, lt' n m
    · rw [if_pos hc, if_pos (h3.2 hc)]
    · rw [if_neg hc, if_neg (fun q => hc (h3.1 q)), h]
theorem zl2 : (2 : Int32) = nI 2 := rfl
theorem zl3 : (3 : Int32) = nI 3 := rfl
theorem zl4 : (4 : Int32) = nI 4 := rfl
theorem zl5 : (5 : Int32) = nI 5 := rfl
theorem zl7 : (7 : Int32) = nI 7 := rfl
theorem zl8 : (8 : Int32) = nI 8 := rfl
theorem zl10 : (10 : Int32) = nI 10 := rfl
theorem zl12 : (12 : Int32) = nI 12 := rfl
theorem zl16 : (16 : Int32) = nI 16 := rfl
theorem zl20 : (20 : Int32) = nI 20 := rfl
theorem zl22 : (22 : Int32) = nI 22 := rfl
theorem zl23 : (23 : Int32) = nI 23 := rfl
theorem zl31 : (31 : Int32) = nI 31 := rfl
theorem zl32 : (32 : Int32) = nI 32 := rfl
theorem zl60 : (60 : Int32) = nI 60 := rfl
theorem zl64 : (64 : Int32) = nI 64 := rfl
theorem zl80 : (80 : Int32) = nI 80 := rfl
theorem zl100 : (100 : Int32) = nI 100 := rfl
theorem zl500 : (500 : Int32) = nI 500 := rfl
theorem zl6 : (6 : Int32) = nI 6 := rfl
theorem zl30 : (30 : Int32) = nI 30 := rfl
theorem zl580 : (580 : Int32) = nI 580 := rfl
theorem z1I (a : Nat) : 1 + nI a = nI (1 + a) := nI_add 1 a
