def zful (c : Nat → Nat) : Nat → Nat
  | 0 => 0
  | i + 1 => if c (zful c i) < c i then i else zful c i
theorem zful_lt (c : Nat → Nat) (i : Nat) : zful c (i + 1) < i + 1 := by
  induction i with
  | zero => unfold zful; split <;> simp [zful]
  | succ i ih => rw [zful]; split <;> omega
theorem zful_8 (c : Nat → Nat) {i : Nat} (h : i ≤ 8) : zful c i < 8 := by
  cases i with
  | zero => simp [zful]
  | succ i => have := zful_lt c i; omega
theorem zful_max (c : Nat → Nat) (i : Nat) : ∀ s, s < i → c s ≤ c (zful c i) := by
  induction i with
  | zero => intro s hs; omega
  | succ i ih =>
    intro s hs
    rw [zful]
    by_cases e : c (zful c i) < c i
    · rw [if_pos e]
      rcases Nat.lt_or_ge s i with h1 | h1
      · have := ih s h1; omega
      · have : s = i := by omega
        rw [this]; exact Nat.le_refl _
    · rw [if_neg e]
      rcases Nat.lt_or_ge s i with h1 | h1
      · exact ih s h1
      · have : s = i := by omega
        rw [this]; omega
def zemp (c : Nat → Nat) (rooms : Nat → Int32) (i : Nat) : Option Nat := zam (fun s => 0 < rooms s - nI (c s)) (fun s m => c s < c m) i
section lv
variable {v : OV} {n : Nat} {S W : Nat → Nat} {H : Nat → Option Nat} {T C P O R Y : Nat → Nat} {h r hs sn : Nat} {sp we le ta : Nat → Int32} {num : Int32} {rooms pu sh ho pa : Nat → Int32} {hours house spent loans surges rate : Int32}
theorem zFull (a : zRC n S W sp we ta num) {Z : Nat} (hZ : 100 < Z) : f_X0_fullest Z ta = some (nI (zful (fun s => zc S s n) 8)) := by
  unfold f_X0_fullest
  have hn := a.1
  have h1 := zloop (fun F (x : Int32) i => f_X0_fullest_L4 ta F x i) (fun i => nI (zful (fun s => zc S s n) i)) 8 (nI (zful (fun s => zc S s n) 8)) (fun F => by
    show f_X0_fullest_L4 ta (F + 1) _ _ = _
    rw [f_X0_fullest_L4, if_neg (by decide)]) (fun F i hi => by
    show f_X0_fullest_L4 ta (F + 1) _ _ = f_X0_fullest_L4 ta F _ _
    have h8 := zful_8 (fun s => zc S s n) (i := i) (by omega)
    have l1 := zc_le S i n
    have l2 := zc_le S (zful (fun s => zc S s n) i) n
    rw [f_X0_fullest_L4, zNum a (by omega), zNum a (by omega)]
    simp (disch := omega) only [zpl1, zpl2, zpl3, zob1, zob2, zob3, zlt, zeq, znn, zn9, zat, zput, zaddc, zag, zas, zl2, zl3, zl4, zl5, zl6, zl7, zl8, zl10, zl12, zl16, zl20, zl22, zl23, zl30, zl31, zl32, zl60, zl64, zl80, zl100, zl500, zl580, nI_1, z1I, zadd, if_true, if_false, hi]
    rw [zful]
    split <;> rfl) 7 1 Z (by omega) (by omega) (by omega)
  have e : zful (fun s => zc S s n) 1 = 0 := by unfold zful; split <;> rfl
  simp only [e] at h1
  have h2 : f_X0_fullest_L4 ta Z 0 1 = some _ := h1
  rw [h2]; rfl
theorem zEmpt (a : zRC n S W sp we ta num) {Z : Nat} (hZ : 100 < Z) : f_X0_emptiestWithRoom Z ta rooms = some (zev (-9) (zemp (fun s => zc S s n) rooms 8)) := by
  unfold f_X0_emptiestWithRoom
  have hn := a.1
  have h1 := zloop0 (fun F (x : Int32) i => f_X0_emptiestWithRoom_L5 ta rooms F x i) (fun i => zev (-9) (zemp (fun s => zc S s n) rooms i)) 8 (zev (-9) (zemp (fun s => zc S s n) rooms 8)) (F := Z) (by omega) (fun F => by
    show f_X0_emptiestWithRoom_L5 ta rooms (F + 1) _ _ = _
    rw [f_X0_emptiestWithRoom_L5, if_neg (by decide)]) (fun F i hi => by
    show f_X0_emptiestWithRoom_L5 ta rooms (F + 1) _ _ = f_X0_emptiestWithRoom_L5 ta rooms F _ _
    have l1 := zc_le S i n
    have ei := zNum a (s := i) (by omega)
    rw [f_X0_emptiestWithRoom_L5]
    simp only [f_X0_freeAt]
    simp (disch := omega) only [zpl1, zpl2, zpl3, zob1, zob2, zob3, zlt, zeq, znn, zn9, zat, zput, zaddc, zag, zas, zl2, zl3, zl4, zl5, zl6, zl7, zl8, zl10, zl12, zl16, zl20, zl22, zl23, zl30, zl31, zl32, zl60, zl64, zl80, zl100, zl500, zl580, nI_1, z1I, zadd, if_true, if_false, hi, ei]
    rw [show zemp (fun s => zc S s n) rooms (i + 1) = if (0 < rooms i - nI (zc S i n)) ∧ (∀ m ∈ zemp (fun s => zc S s n) rooms i, zc S i n < zc S m n) then some i else zemp (fun s => zc S s n) rooms i from rfl]
    have hm : ∀ m, zemp (fun s => zc S s n) rooms i = some m → m < i := fun m hm => (zam_ok hm).1
    generalize zemp (fun s => zc S s n) rooms i = o at hm ⊢
    by_cases hf : 0 < rooms i - nI (zc S i n)
    · cases o with
      | none => simp [hf, zev]
      | some m =>
        have := hm m rfl
        have l2 := zc_le S m n
        simp only [zev]
        have em := zNum a (s := m) (by omega)
        simp (disch := omega) only [zpl1, zpl2, zpl3, zob1, zob2, zob3, zlt, zeq, znn, zn9, zat, zput, zaddc, zag, zas, zl2, zl3, zl4, zl5, zl6, zl7, zl8, zl10, zl12, zl16, zl20, zl22, zl23, zl30, zl31, zl32, zl60, zl64, zl80, zl100, zl500, zl580, nI_1, z1I, zadd, if_true, if_false, em]
        by_cases hd : zc S i n < zc S m n <;> simp [hf, hd]
    · simp [hf])
  have h2 : f_X0_emptiestWithRoom_L5 ta rooms Z (-9) 0 = some _ := h1
  rw [h2]; rfl
def zme (S : Nat → Nat) (n : Nat) : Nat := zsm (fun s => zc S s n * zc S s n) 8
theorem zsm_upd2 {f g : Nat → Nat} {n k l : Nat} (hk : k < n) (hl : l < n) (hne : k ≠ l) (h : ∀ i, i < n → i ≠ k → i ≠ l → g i = f i) : zsm g n + f k + f l = zsm f n + g k + g l := by
  let m : Nat → Nat := fun i => if i = k then g k else f i
  have h1 := zsm_upd (f := f) (g := m) (n := n) (k := k) hk (fun i _ hi => if_neg hi)
  have h2 := zsm_upd (f := m) (g := g) (n := n) (k := l) hl (fun i hi hil => by
    by_cases e : i = k
    · rw [e]; exact (if_pos rfl).symm
    · rw [h i hi e hil]; exact (if_neg e).symm)
  have e1 : m k = g k := if_pos rfl
  have e2 : m l = f l := if_neg (Ne.symm hne)
  rw [e1] at h1
  rw [e2] at h2
  omega
theorem zme_lt {u f t : Nat} (hu : u < n) (hS : S u = f) (hf : f < 8) (ht : t < 8) (hd : zc S t n + 2 ≤ zc S f n) : zme (zup S u t) n < zme S n := by
  have hne : f ≠ t := fun e => by subst e; omega
  have h1 := zsm_upd2 (f := fun s => zc S s n * zc S s n) (g := fun s => zc (zup S u t) s n * zc (zup S u t) s n) (n := 8) (k := f) (l := t) hf ht hne (fun i hi h1 h2 => by
    have := zc_up (S := S) (u := u) (t := t) (s := i) hu
    have e1 : zid (S u = i) = 0 := by unfold zid; rw [if_neg (fun e => h1 (by rw [← e, hS]))]
    have e2 : zid (t = i) = 0 := by unfold zid; rw [if_neg (fun e => h2 e.symm)]
    have e3 : zc (zup S u t) i n = zc S i n := by omega
    simp only [e3])
  have hcf := zc_up (S := S) (u := u) (t := t) (s := f) hu
  have hct := zc_up (S := S) (u := u) (t := t) (s := t) hu
  have e1 : zid (S u = f) = 1 := by unfold zid; rw [if_pos hS]
  have e2 : zid (t = f) = 0 := by unfold zid; rw [if_neg (fun e => hne e.symm)]
  have e3 : zid (S u = t) = 0 := by unfold zid; rw [if_neg (fun e => hne (by rw [← hS, e]))]
  have e4 : zid (t = t) = 1 := by unfold zid; rw [if_pos rfl]
  have f1 : zc (zup S u t) f n = zc S f n - 1 := by omega
  have f2 : zc (zup S u t) t n = zc S t n + 1 := by omega
  simp only [f1, f2] at h1
  unfold zme
  generalize zc S f n = x at *
  generalize zc S t n = y at *
  obtain ⟨z, rfl⟩ : ∃ z, x = y + 2 + z := ⟨x - y - 2, by omega⟩
  rw [show y + 2 + z - 1 = y + 1 + z by omega] at h1
  have g1 : (y + 2 + z) * (y + 2 + z) + y * y = (y + 1 + z) * (y + 1 + z) + (y + 1) * (y + 1) + 2 + 2 * z := by
    grind
  omega
/-- what holds when levelling ends -/
def yEv (S W : Nat → Nat) (n : Nat) (rooms : Nat → Int32) : Prop :=
  zemp (fun s => zc S s n) rooms 8 = none ∨ (∃ t, zemp (fun s => zc S s n) rooms 8 = some t ∧ zc S (zful (fun s => zc S s n) 8) n < zc S t n + 2) ∨ zbest S W (zful (fun s => zc S s n) 8) n = none
theorem yLvE {Z : Nat} (hZ : 100 < Z) (b : zRC n S W sp we ta num) (e : yEv S W n rooms) (F acc : Nat) (hacc : acc < 40000) : f_X0_evenOut_L2 Z we num rooms (F + 1) (nI acc) sp ta = some (nI acc, sp, ta) := by
  have hn := b.1
  have hf8 := zful_8 (fun s => zc S s n) (i := 8) (by omega)
  have hmax := zful_max (fun s => zc S s n) 8
  have hemp : ∀ m, zemp (fun s => zc S s n) rooms 8 = some m → m < 8 := fun m hm => (zam_ok hm).1
  rw [f_X0_evenOut_L2, zFull b hZ, zEmpt b hZ, if_pos (show nI acc < 1000000 from nI_lt (b := 1000000) (by omega) (by decide)), zob1, zob1, zBest b hZ (by omega), zob1]
  unfold yEv at e
  generalize hff : zful (fun s => zc S s n) 8 = f at *
  cases ho : zemp (fun s => zc S s n) rooms 8 with
  | none =>
    have e9 : (zev (-9) none = (-9 : Int32)) = True := eq_true rfl
    simp only [e9, if_true, zpl1]
  | some t =>
    have ht := hemp t ho
    have hct := hmax t ht
    have l1 := zc_le S f n
    have l2 := zc_le S t n
    simp only [zev]
    have q1 := zNum b (s := f) (by omega)
    have q2 := zNum b (s := t) (by omega)
    have q6 : nI (zc S f n) - nI (zc S t n) = nI (zc S f n - zc S t n) := zsub hct
    simp (disch := omega) only [zpl1, zpl2, zpl3, zob1, zob2, zob3, zlt, zeq, znn, zn9, zat, zput, zaddc, zag, zas, zl2, zl3, zl4, zl5, zl6, zl7, zl8, zl10, zl12, zl16, zl20, zl22, zl23, zl30, zl31, zl32, zl60, zl64, zl80, zl100, zl500, zl580, nI_1, z1I, zadd, if_true, if_false, q1, q2, q6]
    by_cases hd : zc S f n - zc S t n < 2
    · simp only [hd, if_true]
    · simp only [hd, if_false, z10]
      rcases e with e | ⟨t', e, e2⟩ | e
      · rw [ho] at e; cases e
      · rw [ho] at e; cases e; omega
      · rw [e]
        have e9 : (zev (-9) none = (-9 : Int32)) = True := eq_true rfl
        simp only [e9, if_true]
theorem yLvL {Z : Nat} (hZ : 100 < Z) : ∀ k F acc S sp ta, zme S n < k → acc + k ≤ 30000 → k + 2 < F → yB n W H T C P O h we num pu sh ho pa S sp ta → (∀ s, s < 8 → ∃ q, q < 100 ∧ rooms s = nI q ∧ zc S s n ≤ q) → ∃ S' sp' ta' q, q ≤ 30000 ∧ f_X0_evenOut_L2 Z we num rooms F (nI acc) sp ta = some (nI q, sp', ta') ∧ yB n W H T C P O h we num pu sh ho pa S' sp' ta' ∧ yEv S' W n rooms ∧ (∀ s, s < 8 → ∃ q, q < 100 ∧ rooms s = nI q ∧ zc S' s n ≤ q) ∧ (∀ u, S' u = S u ∨ (S u < 8 ∧ S' u < 8)) := by
  intro k
  induction k with
  | zero => intro F acc S sp ta hk; omega
  | succ k ih =>
    intro F acc S sp ta hk hacc hF b hR
    obtain ⟨F, rfl⟩ : ∃ G, F = G + 1 := ⟨F - 1, by omega⟩
    by_cases hev : yEv S W n rooms
    · exact ⟨S, sp, ta, acc, by omega, yLvE hZ b.1 hev F acc (by omega), b, hev, hR, fun u => Or.inl rfl⟩
    · have hn := b.1.1
      have hf8 := zful_8 (fun s => zc S s n) (i := 8) (by omega)
      have hmax := zful_max (fun s => zc S s n) 8
      have hempk : ∀ m, zemp (fun s => zc S s n) rooms 8 = some m → m < 8 ∧ 0 < rooms m - nI (zc S m n) := fun m hm => zam_ok hm
      rw [f_X0_evenOut_L2, zFull b.1 hZ, zEmpt b.1 hZ, if_pos (show nI acc < 1000000 from nI_lt (b := 1000000) (by omega) (by decide)), zob1, zob1, zBest b.1 hZ (by omega), zob1]
      unfold yEv at hev
      generalize hff : zful (fun s => zc S s n) 8 = f at *
      cases ho : zemp (fun s => zc S s n) rooms 8 with
      | none => exact absurd (Or.inl ho) hev
      | some t =>
        obtain ⟨ht, hfree⟩ := hempk t ho
        have hct := hmax t ht
        have l1 := zc_le S f n
        have l2 := zc_le S t n
        simp only [zev]
        have q1 := zNum b.1 (s := f) (by omega)
        have q2 := zNum b.1 (s := t) (by omega)
        have q6 : nI (zc S f n) - nI (zc S t n) = nI (zc S f n - zc S t n) := zsub hct
        simp (disch := omega) only [zpl1, zpl2, zpl3, zob1, zob2, zob3, zlt, zeq, znn, zn9, zat, zput, zaddc, zag, zas, zl2, zl3, zl4, zl5, zl6, zl7, zl8, zl10, zl12, zl16, zl20, zl22, zl23, zl30, zl31, zl32, zl60, zl64, zl80, zl100, zl500, zl580, nI_1, z1I, zadd, if_true, if_false, q1, q2, q6]
        have hd : ¬ zc S f n - zc S t n < 2 := fun q => hev (Or.inr (Or.inl ⟨t, ho, by omega⟩))
        simp only [hd, if_false, z10]
        cases hb : zbest S W f n with
        | none => exact absurd (Or.inr (Or.inr hb)) hev
        | some u =>
          have hu := zam_ok hb
          have hSu : S u = f := hu.2.1
          have hun := hu.1
          simp only [zev]
          simp (disch := omega) only [zpl1, zpl2, zpl3, zob1, zob2, zob3, zlt, zeq, znn, zn9, zat, zput, zaddc, zag, zas, zl2, zl3, zl4, zl5, zl6, zl7, zl8, zl10, zl12, zl16, zl20, zl22, zl23, zl30, zl31, zl32, zl60, zl64, zl80, zl100, zl500, zl580, nI_1, z1I, zadd, if_true, if_false, z10]
          have hb' := b.mv (u := u) (t := t) hun (by omega) (by omega) (by omega)
          have hlt := zme_lt (S := S) (n := n) (u := u) (f := f) (t := t) hun hSu hf8 ht (by omega)
          have e21 : f_X5_move sp ta (nI u) (nI t) = ((f_X5_move sp ta (nI u) (nI t)).1, (f_X5_move sp ta (nI u) (nI t)).2) := rfl
          rw [e21, zpl2]
          obtain ⟨S', sp', ta', q, m1, m2, m3, m4, m5, m6⟩ := ih F (acc + 1) _ _ _ (by omega) (by omega) (by omega) hb' (fun s hs' => by
            obtain ⟨q, r1, r2, r3⟩ := hR s hs'
            refine ⟨q, r1, r2, ?_⟩
            have hz := zc_up (S := S) (u := u) (t := t) (s := s) hun
            by_cases d : t = s
            · subst d
              rw [r2, zsub r3, show (0 : Int32) = nI 0 from rfl, zlt (by omega) (by omega)] at hfree
              rw [zid_1 rfl] at hz
              omega
            · rw [zid_0 d] at hz; omega)
          refine ⟨S', sp', ta', q, m1, m2, m3, m4, m5, fun x => ?_⟩
          by_cases e : x = u
          · subst e
            rcases m6 x with q1 | q1
            · rw [zup_s rfl] at q1; exact Or.inr ⟨by omega, by omega⟩
            · exact Or.inr ⟨by omega, q1.2⟩
          · have := m6 x
            rw [zup_n e] at this; exact this
theorem zme_le (S : Nat → Nat) {n : Nat} (hn : n ≤ 60) : zme S n ≤ 28800 := by
  have := zsm_le (f := fun s => zc S s n * zc S s n) (b := 3600) (n := 8) (fun i _ => by
    have := zc_le S i n
    exact Nat.mul_le_mul (show zc S i n ≤ 60 by omega) (show zc S i n ≤ 60 by omega))
  unfold zme; omega
theorem yLevel {Z : Nat} (hZ : 35000 < Z) (ok : OK v) (a : yC n S W H T C P O R Y h r hs sn v.1) : ∃ c' S' q, q ≤ 30000 ∧ m_level Z v = some (nI q, yW v c') ∧ yC n S' W H T C P O R Y h r hs sn c' ∧ yEv S' W n c'.2.2.2.2.2.1 := by
  have aC := a.1
  have hm := zme_le S aC.1
  obtain ⟨S', sp', ta', q, l0, l1, l2, l3, l4, l5⟩ := yLvL (n := n) (W := W) (H := H) (T := T) (C := C) (P := P) (O := O) (h := h) (we := v.1.2.1) (num := v.1.2.2.2.2.1) (pu := v.1.2.2.2.2.2.2.1) (sh := v.1.2.2.2.2.2.2.2.1) (ho := v.1.2.2.2.2.2.2.2.2.1) (pa := v.1.2.2.2.2.2.2.2.2.2.1) (rooms := v.1.2.2.2.2.2.1) (Z := Z) (by omega) 28801 Z 0 S v.1.1 v.1.2.2.2.1 (by omega) (by omega) (by omega) ⟨aC, a.2.1⟩ (fun s hs' => by have := a.2.2.1 s hs'; exact ⟨R s, by omega, this.1, this.2.2⟩)
  have l1' : f_X0_evenOut_L2 Z v.1.2.1 v.1.2.2.2.2.1 v.1.2.2.2.2.2.1 Z 0 v.1.1 v.1.2.2.2.1 = some (nI q, sp', ta') := l1
  unfold m_level
  rw [gO_in ok]
  unfold f_X6_level f_X0_evenOut
  simp only [l1', zob3]
  refine ⟨zTP v.1 sp' ta', S', q, l0, rfl, yB.ct a l2 (fun t ht => ?_) ?_ (fun u hu hS2 => ?_), l3⟩
  · obtain ⟨q2, r1, r2, r3⟩ := l4 t ht
    have := a.2.2.1 t ht
    rw [this.1] at r2
    have := (nI_eq (by omega) (by omega)).1 r2
    omega
  · refine zsm_congr (fun u _ => ?_)
    rcases l5 u with q1 | q1
    · rw [q1]
    · rw [yz0 q1.1, yz0 q1.2]
  · rcases l5 u with q1 | q1
    · rw [q1] at hS2; exact a.2.2.2.2.2.2.2.2.2.2.2.2.2.2 u hu hS2
    · omega
theorem yLevel0 {Z : Nat} (hZ : 35000 < Z) (ok : OK v) (a : yC n S W H T C P O R Y h r hs sn v.1) (e : yEv S W n v.1.2.2.2.2.2.1) : m_level Z v = some (0, yW v v.1) := by
  have l1 := yLvE (Z := Z) (by omega) a.1 e (Z - 1) 0 (by omega)
  rw [show Z - 1 + 1 = Z by omega] at l1
  have l1' : f_X0_evenOut_L2 Z v.1.2.1 v.1.2.2.2.2.1 v.1.2.2.2.2.2.1 Z 0 v.1.1 v.1.2.2.2.1 = some (0, v.1.1, v.1.2.2.2.1) := l1
  unfold m_level
  rw [gO_in ok]
  unfold f_X6_level f_X0_evenOut
  simp only [l1', zob3]
  rfl
end lv
