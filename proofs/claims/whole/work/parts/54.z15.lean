def zful (c : Nat → Nat) : Nat → Nat
  | 0 => 0
  | i + 1 => if c (zful c i) < c i then i else zful c i
theorem zful_lt (c : Nat → Nat) (i : Nat) : zful c (i + 1) < i + 1 := by
  induction i with
  | zero => unfold zful; split <;> simp [zful]
  | succ i ih => rw [zful]; split <;> omega
theorem zful_8 (c : Nat → Nat) {i : Nat} (h : i ≤ 8) : zful c i < 8 := by
  cases i with
  | zero => simp [zful]
  | succ i => have := zful_lt c i; omega
theorem zful_max (c : Nat → Nat) (i : Nat) : ∀ s, s < i → c s ≤ c (zful c i) := by
  induction i with
  | zero => intro s hs; omega
  | succ i ih =>
    intro s hs
    rw [zful]
    by_cases e : c (zful c i) < c i
    · rw [if_pos e]
      rcases Nat.lt_or_ge s i with h1 | h1
      · have := ih s h1; omega
      · have : s = i := by omega
        rw [this]; exact Nat.le_refl _
    · rw [if_neg e]
      rcases Nat.lt_or_ge s i with h1 | h1
      · exact ih s h1
      · have : s = i := by omega
        rw [this]; omega
def zemp (c : Nat → Nat) (rooms : Nat → Int32) (i : Nat) : Option Nat := zam (fun s => 0 < rooms s - nI (c s)) (fun s m => c s < c m) i
section lv
variable {n : Nat} {S W : Nat → Nat} {H : Nat → Option Nat} {T C P O : Nat → Nat} {h r : Nat} {sp we le ta : Nat → Int32} {num : Int32} {rooms pu sh ho pa : Nat → Int32} {hours house spent loans surges rate : Int32} {q w : Nat → Int32}
theorem zFull (a : zRC n S W sp we ta num) {Z : Nat} (hZ : 100 < Z) : f_X0_fullest Z ta = some (nI (zful (fun s => zc S s n) 8)) := by
  unfold f_X0_fullest
  have hn := a.1
  have h1 := zloop (fun F (x : Int32) i => f_X0_fullest_L4 ta F x i) (fun i => nI (zful (fun s => zc S s n) i)) 8 (nI (zful (fun s => zc S s n) 8)) (fun F => by
    show f_X0_fullest_L4 ta (F + 1) _ _ = _
    rw [f_X0_fullest_L4, if_neg (by decide)]) (fun F i hi => by
    show f_X0_fullest_L4 ta (F + 1) _ _ = f_X0_fullest_L4 ta F _ _
    have h8 := zful_8 (fun s => zc S s n) (i := i) (by omega)
    have l1 := zc_le S i n
    have l2 := zc_le S (zful (fun s => zc S s n) i) n
    rw [f_X0_fullest_L4, zNum a (by omega), zNum a (by omega)]
    simp (disch := omega) only [zpl1, zpl2, zpl3, zob1, zob2, zob3, zlt, zeq, znn, zn9, zat, zput, zaddc, zag, zas, zl2, zl3, zl4, zl5, zl7, zl8, zl10, zl11, zl12, zl16, zl20, zl22, zl23, zl31, zl32, zl60, zl64, zl80, zl100, zl121, zl181, zl241, zl249, zl261, zl273, zl285, zl297, zl309, zl321, zl322, zl323, zl324, zl325, zl326, zl327, zl500, zl61, zl328, zl329, zl657, zl986, nI_1, z1I, zadd, if_true, if_false, hi]
    rw [zful]
    split <;> rfl) 7 1 Z (by omega) (by omega) (by omega)
  have e : zful (fun s => zc S s n) 1 = 0 := by unfold zful; split <;> rfl
  simp only [e] at h1
  have h2 : f_X0_fullest_L4 ta Z 0 1 = some _ := h1
  rw [h2]; rfl
theorem zEmpt (a : zRC n S W sp we ta num) {Z : Nat} (hZ : 100 < Z) : f_X0_emptiestWithRoom Z ta rooms = some (zev (-9) (zemp (fun s => zc S s n) rooms 8)) := by
  unfold f_X0_emptiestWithRoom
  have hn := a.1
  have h1 := zloop0 (fun F (x : Int32) i => f_X0_emptiestWithRoom_L5 ta rooms F x i) (fun i => zev (-9) (zemp (fun s => zc S s n) rooms i)) 8 (zev (-9) (zemp (fun s => zc S s n) rooms 8)) (F := Z) (by omega) (fun F => by
    show f_X0_emptiestWithRoom_L5 ta rooms (F + 1) _ _ = _
    rw [f_X0_emptiestWithRoom_L5, if_neg (by decide)]) (fun F i hi => by
    show f_X0_emptiestWithRoom_L5 ta rooms (F + 1) _ _ = f_X0_emptiestWithRoom_L5 ta rooms F _ _
    have l1 := zc_le S i n
    have ei := zNum a (s := i) (by omega)
    rw [f_X0_emptiestWithRoom_L5]
    simp only [f_X0_freeAt]
    simp (disch := omega) only [zpl1, zpl2, zpl3, zob1, zob2, zob3, zlt, zeq, znn, zn9, zat, zput, zaddc, zag, zas, zl2, zl3, zl4, zl5, zl7, zl8, zl10, zl11, zl12, zl16, zl20, zl22, zl23, zl31, zl32, zl60, zl64, zl80, zl100, zl121, zl181, zl241, zl249, zl261, zl273, zl285, zl297, zl309, zl321, zl322, zl323, zl324, zl325, zl326, zl327, zl500, zl61, zl328, zl329, zl657, zl986, nI_1, z1I, zadd, if_true, if_false, hi, ei]
    rw [show zemp (fun s => zc S s n) rooms (i + 1) = if (0 < rooms i - nI (zc S i n)) ∧ (∀ m ∈ zemp (fun s => zc S s n) rooms i, zc S i n < zc S m n) then some i else zemp (fun s => zc S s n) rooms i from rfl]
    have hm : ∀ m, zemp (fun s => zc S s n) rooms i = some m → m < i := fun m hm => (zam_ok hm).1
    generalize zemp (fun s => zc S s n) rooms i = o at hm ⊢
    by_cases hf : 0 < rooms i - nI (zc S i n)
    · cases o with
      | none => simp [hf, zev]
      | some m =>
        have := hm m rfl
        have l2 := zc_le S m n
        simp only [zev]
        have em := zNum a (s := m) (by omega)
        simp (disch := omega) only [zpl1, zpl2, zpl3, zob1, zob2, zob3, zlt, zeq, znn, zn9, zat, zput, zaddc, zag, zas, zl2, zl3, zl4, zl5, zl7, zl8, zl10, zl11, zl12, zl16, zl20, zl22, zl23, zl31, zl32, zl60, zl64, zl80, zl100, zl121, zl181, zl241, zl249, zl261, zl273, zl285, zl297, zl309, zl321, zl322, zl323, zl324, zl325, zl326, zl327, zl500, zl61, zl328, zl329, zl657, zl986, nI_1, z1I, zadd, if_true, if_false, em]
        by_cases hd : zc S i n < zc S m n <;> simp [hf, hd]
    · simp [hf])
  have h2 : f_X0_emptiestWithRoom_L5 ta rooms Z (-9) 0 = some _ := h1
  rw [h2]; rfl
theorem zLvM (a : zRM n S W q) (hro : ∀ s, s < 8 → q (241 + s) = rooms s) {Z : Nat} (hZ : 100 < Z) : f_X7_levels_L16 Z q Z 0 (-1) 0 = some (nI (zful (fun s => zc S s n) 8), zev (-1) (zemp (fun s => zc S s n) rooms 8)) := by
  have hn := a.1
  have hM : ∀ s, s < 8 → f_X7_manyAt Z q 0 (nI s) = some (nI (zc S s n)) := fun s hs => zMany a hZ (s := s) (by omega) (zpl0s hs).1 (zpl0s hs).2
  have hR : ∀ s, s < 8 → f_X7_roomOf Z q (nI s) = some (rooms s - nI (zc S s n)) := fun s hs => by rw [zRoom a hZ hs, hro s hs]
  exact zloop0 (fun F (x : Int32 × Int32) i => f_X7_levels_L16 Z q F x.1 x.2 i) (fun i => (nI (zful (fun s => zc S s n) i), zev (-1) (zemp (fun s => zc S s n) rooms i))) 8 (nI (zful (fun s => zc S s n) 8), zev (-1) (zemp (fun s => zc S s n) rooms 8)) (F := Z) (by omega) (fun F => by
    show f_X7_levels_L16 Z q (F + 1) _ _ _ = _
    rw [f_X7_levels_L16, if_neg (by decide)]) (fun F i hi => by
    show f_X7_levels_L16 Z q (F + 1) _ _ _ = f_X7_levels_L16 Z q F _ _ _
    have h8 := zful_8 (fun s => zc S s n) (i := i) (by omega)
    have l1 := zc_le S i n
    have l2 := zc_le S (zful (fun s => zc S s n) i) n
    rw [f_X7_levels_L16, hM i hi, hM _ h8, hR i hi]
    simp (disch := omega) only [zpl1, zpl2, zpl3, zob1, zob2, zob3, zlt, zeq, znn, zn9, zat, zput, zaddc, zag, zas, zl2, zl3, zl4, zl5, zl7, zl8, zl10, zl11, zl12, zl16, zl20, zl22, zl23, zl31, zl32, zl60, zl64, zl80, zl100, zl121, zl181, zl241, zl249, zl261, zl273, zl285, zl297, zl309, zl321, zl322, zl323, zl324, zl325, zl326, zl327, zl500, zl61, zl328, zl329, zl657, zl986, nI_1, z1I, zadd, if_true, if_false, hi]
    rw [show zemp (fun s => zc S s n) rooms (i + 1) = if (0 < rooms i - nI (zc S i n)) ∧ (∀ m ∈ zemp (fun s => zc S s n) rooms i, zc S i n < zc S m n) then some i else zemp (fun s => zc S s n) rooms i from rfl]
    have hm : ∀ m, zemp (fun s => zc S s n) rooms i = some m → m < i := fun m hm => (zam_ok hm).1
    generalize zemp (fun s => zc S s n) rooms i = o at hm ⊢
    have e1 : (if zc S (zful (fun s => zc S s n) i) n < zc S i n then nI i else nI (zful (fun s => zc S s n) i)) = nI (zful (fun s => zc S s n) (i + 1)) := by
      rw [zful]; split <;> rfl
    rw [e1]
    by_cases hf : 0 < rooms i - nI (zc S i n)
    · cases o with
      | none => simp [hf, zev, show (-1 : Int32) < 0 from by decide, zob1]
      | some m =>
        have := hm m rfl
        have l3 := zc_le S m n
        simp only [zev, hf, if_true]
        rw [hM m (by omega)]
        simp (disch := omega) only [zpl1, zpl2, zpl3, zob1, zob2, zob3, zlt, zeq, znn, zn9, zat, zput, zaddc, zag, zas, zl2, zl3, zl4, zl5, zl7, zl8, zl10, zl11, zl12, zl16, zl20, zl22, zl23, zl31, zl32, zl60, zl64, zl80, zl100, zl121, zl181, zl241, zl249, zl261, zl273, zl285, zl297, zl309, zl321, zl322, zl323, zl324, zl325, zl326, zl327, zl500, zl61, zl328, zl329, zl657, zl986, nI_1, z1I, zadd, if_true, if_false]
        by_cases hd : zc S i n < zc S m n <;> simp [hd, zob1]
    · simp [hf, zob1])
def zme (S : Nat → Nat) (n : Nat) : Nat := zsm (fun s => zc S s n * zc S s n) 8
theorem zsm_upd2 {f g : Nat → Nat} {n k l : Nat} (hk : k < n) (hl : l < n) (hne : k ≠ l) (h : ∀ i, i < n → i ≠ k → i ≠ l → g i = f i) : zsm g n + f k + f l = zsm f n + g k + g l := by
  let m : Nat → Nat := fun i => if i = k then g k else f i
  have h1 := zsm_upd (f := f) (g := m) (n := n) (k := k) hk (fun i _ hi => if_neg hi)
  have h2 := zsm_upd (f := m) (g := g) (n := n) (k := l) hl (fun i hi hil => by
    by_cases e : i = k
    · rw [e]; exact (if_pos rfl).symm
    · rw [h i hi e hil]; exact (if_neg e).symm)
  have e1 : m k = g k := if_pos rfl
  have e2 : m l = f l := if_neg (Ne.symm hne)
  rw [e1] at h1
  rw [e2] at h2
  omega
theorem zme_lt {u f t : Nat} (hu : u < n) (hS : S u = f) (hf : f < 8) (ht : t < 8) (hd : zc S t n + 2 ≤ zc S f n) : zme (zup S u t) n < zme S n := by
  have hne : f ≠ t := fun e => by subst e; omega
  have h1 := zsm_upd2 (f := fun s => zc S s n * zc S s n) (g := fun s => zc (zup S u t) s n * zc (zup S u t) s n) (n := 8) (k := f) (l := t) hf ht hne (fun i hi h1 h2 => by
    have := zc_up (S := S) (u := u) (t := t) (s := i) hu
    have e1 : zid (S u = i) = 0 := by unfold zid; rw [if_neg (fun e => h1 (by rw [← e, hS]))]
    have e2 : zid (t = i) = 0 := by unfold zid; rw [if_neg (fun e => h2 e.symm)]
    have e3 : zc (zup S u t) i n = zc S i n := by omega
    simp only [e3])
  have hcf := zc_up (S := S) (u := u) (t := t) (s := f) hu
  have hct := zc_up (S := S) (u := u) (t := t) (s := t) hu
  have e1 : zid (S u = f) = 1 := by unfold zid; rw [if_pos hS]
  have e2 : zid (t = f) = 0 := by unfold zid; rw [if_neg (fun e => hne e.symm)]
  have e3 : zid (S u = t) = 0 := by unfold zid; rw [if_neg (fun e => hne (by rw [← hS, e]))]
  have e4 : zid (t = t) = 1 := by unfold zid; rw [if_pos rfl]
  have f1 : zc (zup S u t) f n = zc S f n - 1 := by omega
  have f2 : zc (zup S u t) t n = zc S t n + 1 := by omega
  simp only [f1, f2] at h1
  unfold zme
  generalize zc S f n = x at *
  generalize zc S t n = y at *
  obtain ⟨z, rfl⟩ : ∃ z, x = y + 2 + z := ⟨x - y - 2, by omega⟩
  rw [show y + 2 + z - 1 = y + 1 + z by omega] at h1
  have g1 : (y + 2 + z) * (y + 2 + z) + y * y = (y + 1 + z) * (y + 1 + z) + (y + 1) * (y + 1) + 2 + 2 * z := by
    grind
  omega
theorem zLvL {Z : Nat} (hZ : 100 < Z) (hro : ∀ s, s < 8 → q (241 + s) = rooms s) : ∀ k F acc S sp ta w, zme S n < k → acc + k ≤ 30000 → k + 2 < F → zB n W H T C P O h we num pu sh ho pa q S sp ta w → ∃ S' sp' ta' w' r, r ≤ 30000 ∧ f_X0_evenOut_L2 Z we num rooms F (nI acc) sp ta = some (nI r, sp', ta') ∧ f_X7_levels_L4 Z F (nI acc) 1 w = some (nI r, w') ∧ zB n W H T C P O h we num pu sh ho pa q S' sp' ta' w' := by
  intro k
  induction k with
  | zero => intro F acc S sp ta w hk; omega
  | succ k ih =>
    intro F acc S sp ta w hk hacc hF b
    obtain ⟨F, rfl⟩ : ∃ G, F = G + 1 + 1 := ⟨F - 2, by omega⟩
    have hn := b.1.1
    have hf8 := zful_8 (fun s => zc S s n) (i := 8) (by omega)
    have hmax := zful_max (fun s => zc S s n) 8
    have hemp : ∀ m, zemp (fun s => zc S s n) rooms 8 = some m → m < 8 := fun m hm => (zam_ok hm).1
    have hro' : ∀ s, s < 8 → w (241 + s) = rooms s := fun s hs => by rw [b.2.2.1 _ (by omega)]; exact hro s hs
    have hend : f_X7_levels_L4 Z (F + 1) (nI acc) 0 w = some (nI acc, w) := by rw [f_X7_levels_L4, if_pos rfl]
    rw [f_X0_evenOut_L2, f_X7_levels_L4, zFull b.1 hZ, zEmpt b.1 hZ, zLvM b.2.1 hro' hZ, if_pos (show nI acc < 1000000 from nI_lt (b := 1000000) (by omega) (by decide)), zob1, zob1, zob2, zBest b.1 hZ (by omega), zob1]
    simp only [z10, if_false]
    have hstop : ∃ S' sp' ta' w' r, r ≤ 30000 ∧ some (nI acc, sp, ta) = some (nI r, sp', ta') ∧ f_X7_levels_L4 Z (F + 1) (nI acc) 0 w = some (nI r, w') ∧ zB n W H T C P O h we num pu sh ho pa q S' sp' ta' w' := ⟨S, sp, ta, w, acc, by omega, rfl, hend, b⟩
    generalize hff : zful (fun s => zc S s n) 8 = f at *
    cases ho : zemp (fun s => zc S s n) rooms 8 with
    | none =>
      simp only [zev, if_true, zpl1, show ((-1 : Int32) < 0) = True by simp, zob1, zob2]
      exact hstop
    | some t =>
      have ht := hemp t ho
      have hct := hmax t ht
      have l1 := zc_le S f n
      have l2 := zc_le S t n
      simp only [zev]
      have q1 := zNum b.1 (s := f) (by omega)
      have q2 := zNum b.1 (s := t) (by omega)
      have q3 := zMany b.2.1 (P := 0) (X := nI f) hZ (s := f) (by omega) (zpl0s hf8).1 (zpl0s hf8).2
      have q4 := zMany b.2.1 (P := 0) (X := nI t) hZ (s := t) (by omega) (zpl0s ht).1 (zpl0s ht).2
      have q5 := zBestM b.2.1 hZ hf8
      have q6 : nI (zc S f n) - nI (zc S t n) = nI (zc S f n - zc S t n) := zsub hct
      simp (disch := omega) only [zpl1, zpl2, zpl3, zob1, zob2, zob3, zlt, zeq, znn, zn9, zat, zput, zaddc, zag, zas, zl2, zl3, zl4, zl5, zl7, zl8, zl10, zl11, zl12, zl16, zl20, zl22, zl23, zl31, zl32, zl60, zl64, zl80, zl100, zl121, zl181, zl241, zl249, zl261, zl273, zl285, zl297, zl309, zl321, zl322, zl323, zl324, zl325, zl326, zl327, zl500, zl61, zl328, zl329, zl657, zl986, nI_1, z1I, zadd, if_true, if_false, q1, q2, q3, q4, q5, q6]
      by_cases hd : zc S f n - zc S t n < 2
      · have hd' : zc S f n < zc S t n + 2 := by omega
        simp only [hd, hd', if_true, zob1, zob2]
        exact hstop
      · have hd' : ¬ zc S f n < zc S t n + 2 := by omega
        simp only [hd, hd', if_false, z10]
        cases hb : zbest S W f n with
        | none =>
          simp only [zev, if_true, show ((-1 : Int32) < 0) = True by simp, zob1, zob2]
          exact hstop
        | some u =>
          have hu := zam_ok hb
          have hSu : S u = f := hu.2.1
          have hun := hu.1
          simp only [zev]
          simp (disch := omega) only [zpl1, zpl2, zpl3, zob1, zob2, zob3, zlt, zeq, znn, zn9, zat, zput, zaddc, zag, zas, zl2, zl3, zl4, zl5, zl7, zl8, zl10, zl11, zl12, zl16, zl20, zl22, zl23, zl31, zl32, zl60, zl64, zl80, zl100, zl121, zl181, zl241, zl249, zl261, zl273, zl285, zl297, zl309, zl321, zl322, zl323, zl324, zl325, zl326, zl327, zl500, zl61, zl328, zl329, zl657, zl986, nI_1, z1I, zadd, if_true, if_false, z10, zGo]
          have hb' := b.mv (u := u) (t := t) (x := 0) (y := nI t) hun (by omega) (by omega) (by omega) (zpl0s ht).1 (fun _ => (zpl0s ht).2)
          have hlt := zme_lt (S := S) (n := n) (u := u) (f := f) (t := t) hun hSu hf8 ht (by omega)
          have e21 : f_X5_move sp ta (nI u) (nI t) = ((f_X5_move sp ta (nI u) (nI t)).1, (f_X5_move sp ta (nI u) (nI t)).2) := rfl
          rw [e21, zpl2]
          exact ih (F + 1) (acc + 1) _ _ _ _ (by omega) (by omega) (by omega) hb'
end lv
theorem zme_le (S : Nat → Nat) {n : Nat} (hn : n ≤ 60) : zme S n ≤ 28800 := by
  have := zsm_le (f := fun s => zc S s n * zc S s n) (b := 3600) (n := 8) (fun i _ => by
    have := zc_le S i n
    exact Nat.mul_le_mul (show zc S i n ≤ 60 by omega) (show zc S i n ≤ 60 by omega))
  unfold zme; omega
theorem zz_levelR {Z : Nat} {c : CV} {q : Nat → Int32} (hZ : 30000 < Z) (a : zRT c q) : ∃ r sp' ta' q', f_X0_evenOut Z c.1 c.2.1 c.2.2.2.1 c.2.2.2.2.1 c.2.2.2.2.2.1 = some (r, sp', ta') ∧ f_X7_levels Z q = some (r, q') ∧ ¬ r < 0 ∧ zRT (zTP c sp' ta') q' ∧ ∀ i, 328 ≤ i → q' i = q i := by
  obtain ⟨n, S, W, H, T, C, P, O, h, r, hh, aC, aM, aL, aP, aG⟩ := a
  have hm := zme_le S aC.1
  obtain ⟨S', sp', ta', w', r', l0, l1, l2, l3⟩ := zLvL (n := n) (W := W) (H := H) (T := T) (C := C) (P := P) (O := O) (h := h) (rooms := c.2.2.2.2.2.1) (Z := Z) (q := q) (by omega) aG.1 28801 Z 0 S c.1 c.2.2.2.1 q (by omega) (by omega) (by omega) ⟨aC, aM, fun _ _ => rfl, aP⟩
  have l1' : f_X0_evenOut_L2 Z c.2.1 c.2.2.2.2.1 c.2.2.2.2.2.1 Z 0 c.1 c.2.2.2.1 = some (nI r', sp', ta') := l1
  have l2' : f_X7_levels_L4 Z Z 0 1 q = some (nI r', w') := l2
  unfold f_X0_evenOut f_X7_levels
  rw [l1', l2', zob3, zob2]
  exact ⟨nI r', sp', ta', w', rfl, rfl, by rw [znn (by omega)]; simp, zB.ct l3 hh aL aG, fun i hi => l3.2.2.1 i (by omega)⟩
theorem zz_level {Z : Nat} {c : CV} {q : Nat → Int32} (hZ : 30000 < Z) (a : zRT c q) : zOp Z c q (fun s0 s1 k0 k1 g nx sz => f_X6_level Z c s0 s1 k0 k1 g nx sz) (fun sv st => f_X7_level Z q sv st) := by
  obtain ⟨r, sp', ta', q', l1, l2, l3, l4, l5⟩ := zz_levelR hZ a
  unfold f_X6_level f_X7_level
  right
  simp only [l1, l2, zob3, zob2]
  exact ⟨r, _, q', l4, l5, fun _ _ _ _ _ _ _ => rfl, fun sv st sv' st' hs => by rw [show f_X7_save Z q sv st = _ from hs, zob2]⟩
