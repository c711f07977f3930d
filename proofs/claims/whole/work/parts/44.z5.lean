def zwo (w r g : Nat) : Nat := min 64 (w + (if w < 16 then r else 2 * r) + 2 * g)
theorem zwo_le (w r g : Nat) : zwo w r g ≤ 64 := by unfold zwo; omega
theorem zwo_ge {w : Nat} (r g : Nat) (h : w ≤ 64) : w ≤ zwo w r g := by unfold zwo; split <;> omega
theorem zmin {a b : Nat} (ha : a < 1000000) (hb : b < 1000000) : imin (nI a) (nI b) = nI (min a b) := by
  unfold imin
  simp (disch := omega) only [zpl1, zpl2, zpl3, zob1, zob2, zob3, zlt, zeq, znn, zn9, zat, zput, zaddc, zag, zas, zl2, zl3, zl4, zl5, zl7, zl8, zl10, zl11, zl12, zl16, zl20, zl22, zl23, zl31, zl32, zl60, zl64, zl80, zl100, zl121, zl181, zl241, zl249, zl261, zl273, zl285, zl297, zl309, zl321, zl322, zl323, zl324, zl325, zl326, zl327, zl500, zl61, zl328, zl329, zl657, zl986, nI_1, z1I, zadd, if_true, if_false]
  by_cases h : b < a
  · simp only [h, if_true]; congr 1; omega
  · simp only [h, if_false]; congr 1; omega
theorem zmax {a b : Nat} (ha : a < 1000000) (hb : b < 1000000) : imax (nI a) (nI b) = nI (max a b) := by
  unfold imax
  simp (disch := omega) only [zpl1, zpl2, zpl3, zob1, zob2, zob3, zlt, zeq, znn, zn9, zat, zput, zaddc, zag, zas, zl2, zl3, zl4, zl5, zl7, zl8, zl10, zl11, zl12, zl16, zl20, zl22, zl23, zl31, zl32, zl60, zl64, zl80, zl100, zl121, zl181, zl241, zl249, zl261, zl273, zl285, zl297, zl309, zl321, zl322, zl323, zl324, zl325, zl326, zl327, zl500, zl61, zl328, zl329, zl657, zl986, nI_1, z1I, zadd, if_true, if_false]
  by_cases h : a < b
  · simp only [h, if_true]; congr 1; omega
  · simp only [h, if_false]; congr 1; omega
theorem zite {p : Prop} [Decidable p] (a b : Nat) : (if p then nI a else nI b) = nI (if p then a else b) := by split <;> rfl
theorem zWorn {w r g : Nat} (hw : w ≤ 64) (hr : r ≤ 9) (hg : g ≤ 3) : f_X6_wornBy (nI w) (nI r) (nI g) = nI (zwo w r g) := by
  unfold f_X6_wornBy
  simp (disch := omega) only [zpl1, zpl2, zpl3, zob1, zob2, zob3, zlt, zeq, znn, zn9, zat, zput, zaddc, zag, zas, zl2, zl3, zl4, zl5, zl7, zl8, zl10, zl11, zl12, zl16, zl20, zl22, zl23, zl31, zl32, zl60, zl64, zl80, zl100, zl121, zl181, zl241, zl249, zl261, zl273, zl285, zl297, zl309, zl321, zl322, zl323, zl324, zl325, zl326, zl327, zl500, zl61, zl328, zl329, zl657, zl986, nI_1, z1I, zadd, if_true, if_false, zmul]
  rw [zite, zadd, zadd, zmin (by omega) (by split <;> omega)]
  rfl
theorem zWornM {w r g : Nat} (hw : w ≤ 64) (hr : r ≤ 9) (hg : g ≤ 3) : f_X7_worn (nI w) (nI r) (nI g) = nI (zwo w r g) := by
  unfold f_X7_worn
  have e : (if nI w < 16 then (1 : Int32) else 2) = nI (if w < 16 then 1 else 2) := by
    simp (disch := omega) only [zpl1, zpl2, zpl3, zob1, zob2, zob3, zlt, zeq, znn, zn9, zat, zput, zaddc, zag, zas, zl2, zl3, zl4, zl5, zl7, zl8, zl10, zl11, zl12, zl16, zl20, zl22, zl23, zl31, zl32, zl60, zl64, zl80, zl100, zl121, zl181, zl241, zl249, zl261, zl273, zl285, zl297, zl309, zl321, zl322, zl323, zl324, zl325, zl326, zl327, zl500, zl61, zl328, zl329, zl657, zl986, nI_1, z1I, zadd, if_true, if_false]; split <;> rfl
  rw [e, zpl1, zmul, show (2 : Int32) = nI 2 from rfl, zmul, zadd, zadd]
  have : (if w < 16 then 1 else 2) * r ≤ 18 := by split <;> omega
  simp (disch := omega) only [zpl1, zpl2, zpl3, zob1, zob2, zob3, zlt, zeq, znn, zn9, zat, zput, zaddc, zag, zas, zl2, zl3, zl4, zl5, zl7, zl8, zl10, zl11, zl12, zl16, zl20, zl22, zl23, zl31, zl32, zl60, zl64, zl80, zl100, zl121, zl181, zl241, zl249, zl261, zl273, zl285, zl297, zl309, zl321, zl322, zl323, zl324, zl325, zl326, zl327, zl500, zl61, zl328, zl329, zl657, zl986, nI_1, z1I, zadd, if_true, if_false]
  rw [zite]; congr 1
  unfold zwo
  by_cases h16 : w < 16
  · simp only [h16, if_true]; split <;> omega
  · simp only [h16, if_false]; split <;> omega
def zit (f : Nat → Nat) : Nat → Nat → Nat
  | 0, w => w
  | k + 1, w => f (zit f k w)
theorem zit_le {f : Nat → Nat} {w : Nat} (hw : w ≤ 64) (hf : ∀ x, f x ≤ 64) (k : Nat) : zit f k w ≤ 64 := by
  cases k with
  | zero => exact hw
  | succ k => exact hf _
theorem zit_ge {f : Nat → Nat} {w : Nat} (hw : w ≤ 64) (hf : ∀ x, f x ≤ 64) (hg : ∀ x, x ≤ 64 → x ≤ f x) (k : Nat) : w ≤ zit f k w := by
  induction k with
  | zero => exact Nat.le_refl _
  | succ k ih => exact Nat.le_trans ih (hg _ (zit_le hw hf k))
theorem zFeeL {Z w r m : Nat} (hZ : 100 < Z) (hw : w ≤ 64) (hr : r ≤ 9) (hm : m ≤ 50) : f_X0_feeAfter_L20 (nI m) (nI r) Z (nI w) 0 = some (nI (zit (fun x => zwo x r 0) m w)) :=
  zloop0 (fun F (a : Int32) i => f_X0_feeAfter_L20 (nI m) (nI r) F a i) (fun i => nI (zit (fun x => zwo x r 0) i w)) m _ (F := Z) (by omega) (fun F => by
    show f_X0_feeAfter_L20 (nI m) (nI r) (F + 1) _ _ = _
    rw [f_X0_feeAfter_L20]
    simp (disch := omega) only [zpl1, zpl2, zpl3, zob1, zob2, zob3, zlt, zeq, znn, zn9, zat, zput, zaddc, zag, zas, zl2, zl3, zl4, zl5, zl7, zl8, zl10, zl11, zl12, zl16, zl20, zl22, zl23, zl31, zl32, zl60, zl64, zl80, zl100, zl121, zl181, zl241, zl249, zl261, zl273, zl285, zl297, zl309, zl321, zl322, zl323, zl324, zl325, zl326, zl327, zl500, zl61, zl328, zl329, zl657, zl986, nI_1, z1I, zadd, if_true, if_false, Nat.lt_irrefl]) (fun F i hi => by
    show f_X0_feeAfter_L20 (nI m) (nI r) (F + 1) _ _ = f_X0_feeAfter_L20 (nI m) (nI r) F _ _
    have h64 := zit_le (f := fun x => zwo x r 0) hw (fun x => zwo_le x r 0) i
    rw [f_X0_feeAfter_L20, show (0 : Int32) = nI 0 from rfl, zWorn h64 hr (by omega)]
    simp (disch := omega) only [zpl1, zpl2, zpl3, zob1, zob2, zob3, zlt, zeq, znn, zn9, zat, zput, zaddc, zag, zas, zl2, zl3, zl4, zl5, zl7, zl8, zl10, zl11, zl12, zl16, zl20, zl22, zl23, zl31, zl32, zl60, zl64, zl80, zl100, zl121, zl181, zl241, zl249, zl261, zl273, zl285, zl297, zl309, zl321, zl322, zl323, zl324, zl325, zl326, zl327, zl500, zl61, zl328, zl329, zl657, zl986, nI_1, z1I, zadd, if_true, if_false, hi]
    rfl)
theorem zFeeLM {Z w r m : Nat} (hZ : 100 < Z) (hw : w ≤ 64) (hr : r ≤ 9) (hm : m ≤ 50) : f_X7_feeIn_L78 (nI m) (nI r) Z (nI w) 0 = some (nI (zit (fun x => zwo x r 0) m w)) :=
  zloop0 (fun F (a : Int32) i => f_X7_feeIn_L78 (nI m) (nI r) F a i) (fun i => nI (zit (fun x => zwo x r 0) i w)) m _ (F := Z) (by omega) (fun F => by
    show f_X7_feeIn_L78 (nI m) (nI r) (F + 1) _ _ = _
    rw [f_X7_feeIn_L78]
    simp (disch := omega) only [zpl1, zpl2, zpl3, zob1, zob2, zob3, zlt, zeq, znn, zn9, zat, zput, zaddc, zag, zas, zl2, zl3, zl4, zl5, zl7, zl8, zl10, zl11, zl12, zl16, zl20, zl22, zl23, zl31, zl32, zl60, zl64, zl80, zl100, zl121, zl181, zl241, zl249, zl261, zl273, zl285, zl297, zl309, zl321, zl322, zl323, zl324, zl325, zl326, zl327, zl500, zl61, zl328, zl329, zl657, zl986, nI_1, z1I, zadd, if_true, if_false, Nat.lt_irrefl]) (fun F i hi => by
    show f_X7_feeIn_L78 (nI m) (nI r) (F + 1) _ _ = f_X7_feeIn_L78 (nI m) (nI r) F _ _
    have h64 := zit_le (f := fun x => zwo x r 0) hw (fun x => zwo_le x r 0) i
    rw [f_X7_feeIn_L78, show (0 : Int32) = nI 0 from rfl, zWornM h64 hr (by omega)]
    simp (disch := omega) only [zpl1, zpl2, zpl3, zob1, zob2, zob3, zlt, zeq, znn, zn9, zat, zput, zaddc, zag, zas, zl2, zl3, zl4, zl5, zl7, zl8, zl10, zl11, zl12, zl16, zl20, zl22, zl23, zl31, zl32, zl60, zl64, zl80, zl100, zl121, zl181, zl241, zl249, zl261, zl273, zl285, zl297, zl309, zl321, zl322, zl323, zl324, zl325, zl326, zl327, zl500, zl61, zl328, zl329, zl657, zl986, nI_1, z1I, zadd, if_true, if_false, hi]
    rfl)
section pr
variable {n : Nat} {S W : Nat → Nat} {H : Nat → Option Nat} {T C P O : Nat → Nat} {h r : Nat} {sp we le ta : Nat → Int32} {num : Int32} {rooms pu sh ho pa : Nat → Int32} {hours house spent loans surges rate : Int32} {q q' : Nat → Int32}
theorem zHas (a : zRC n S W sp we ta num) (b : zRP n S W H T C P O h pu sh ho pa q) {k : Nat} (hk : k < 12) : f_X0_hasOne ta (nI k) = if H k = none then 0 else 1 := by
  unfold f_X0_hasOne
  have hl := zc_le S (8 + k) n
  have := a.1
  have hno := zNo a.1 b hk
  have e : f_X5_numberAt ta (8 + nI k) = nI (zc S (8 + k) n) := by
    rw [show (8 : Int32) = nI 8 from rfl, zadd, zNum a (by omega)]
  rw [e, show (0 : Int32) = nI 0 from rfl]
  simp (disch := omega) only [zpl1, zpl2, zpl3, zob1, zob2, zob3, zlt, zeq, znn, zn9, zat, zput, zaddc, zag, zas, zl2, zl3, zl4, zl5, zl7, zl8, zl10, zl11, zl12, zl16, zl20, zl22, zl23, zl31, zl32, zl60, zl64, zl80, zl100, zl121, zl181, zl241, zl249, zl261, zl273, zl285, zl297, zl309, zl321, zl322, zl323, zl324, zl325, zl326, zl327, zl500, zl61, zl328, zl329, zl657, zl986, nI_1, z1I, zadd, if_true, if_false]
  by_cases hc : zc S (8 + k) n = 0
  · rw [if_neg (by omega), if_pos (hno.2 hc)]
  · rw [if_pos (by omega), if_neg (fun e => hc (hno.1 e))]
theorem zHand (a : zRC n S W sp we ta num) (b : zRP n S W H T C P O h pu sh ho pa q) {Z k : Nat} (hZ : 100 < Z) (hk : k < 12) : f_X0_inHand Z sp num (nI k) = some (zev (-9) (H k)) := by
  have hb := b.1 k hk
  obtain ⟨h0, rfl, h2, h3, h4, h5, h6, h7⟩ := a
  unfold f_X0_inHand f_X5_nthAt
  have e8 : (8 : Int32) + nI k = nI (8 + k) := by rw [show (8 : Int32) = nI 8 from rfl, zadd]
  rw [e8]
  have hst : ∀ F i, i < n → S i ≠ 8 + k → f_X5_nthAt_L5 sp (nI n) (nI (8 + k)) 0 (F + 1) 0 (nI i) = f_X5_nthAt_L5 sp (nI n) (nI (8 + k)) 0 F 0 (nI (i + 1)) := fun F i hi hne => by
    have := h2 i hi
    rw [f_X5_nthAt_L5]
    simp (disch := omega) only [zpl1, zpl2, zpl3, zob1, zob2, zob3, zlt, zeq, znn, zn9, zat, zput, zaddc, zag, zas, zl2, zl3, zl4, zl5, zl7, zl8, zl10, zl11, zl12, zl16, zl20, zl22, zl23, zl31, zl32, zl60, zl64, zl80, zl100, zl121, zl181, zl241, zl249, zl261, zl273, zl285, zl297, zl309, zl321, zl322, zl323, zl324, zl325, zl326, zl327, zl500, zl61, zl328, zl329, zl657, zl986, nI_1, z1I, zadd, if_true, if_false, hi, h5, hne]
  cases hH : H k with
  | none =>
    have h1 := zloop0 (fun F (_ : Unit) i => f_X5_nthAt_L5 sp (nI n) (nI (8 + k)) 0 F 0 i) (fun i => ()) n (-9) (F := Z) (by omega) (fun F => by
      show f_X5_nthAt_L5 sp (nI n) (nI (8 + k)) 0 (F + 1) 0 _ = _
      rw [f_X5_nthAt_L5]
      simp (disch := omega) only [zpl1, zpl2, zpl3, zob1, zob2, zob3, zlt, zeq, znn, zn9, zat, zput, zaddc, zag, zas, zl2, zl3, zl4, zl5, zl7, zl8, zl10, zl11, zl12, zl16, zl20, zl22, zl23, zl31, zl32, zl60, zl64, zl80, zl100, zl121, zl181, zl241, zl249, zl261, zl273, zl285, zl297, zl309, zl321, zl322, zl323, zl324, zl325, zl326, zl327, zl500, zl61, zl328, zl329, zl657, zl986, nI_1, z1I, zadd, if_true, if_false, Nat.lt_irrefl]) (fun F i hi => hst F i hi (fun e => by have := (hb i).2 ⟨hi, e⟩; rw [hH] at this; cases this))
    have h2 : f_X5_nthAt_L5 sp (nI n) (nI (8 + k)) 0 Z 0 0 = some _ := h1
    rw [h2]; rfl
  | some u =>
    have hu := (hb u).1 hH
    have h1 := zloop0 (fun F (_ : Unit) i => f_X5_nthAt_L5 sp (nI n) (nI (8 + k)) 0 F 0 i) (fun i => ()) u (nI u) (F := Z) (by omega) (fun F => by
      show f_X5_nthAt_L5 sp (nI n) (nI (8 + k)) 0 (F + 1) 0 _ = _
      rw [f_X5_nthAt_L5]
      have := hu.1
      simp (disch := omega) only [zpl1, zpl2, zpl3, zob1, zob2, zob3, zlt, zeq, znn, zn9, zat, zput, zaddc, zag, zas, zl2, zl3, zl4, zl5, zl7, zl8, zl10, zl11, zl12, zl16, zl20, zl22, zl23, zl31, zl32, zl60, zl64, zl80, zl100, zl121, zl181, zl241, zl249, zl261, zl273, zl285, zl297, zl309, zl321, zl322, zl323, zl324, zl325, zl326, zl327, zl500, zl61, zl328, zl329, zl657, zl986, nI_1, z1I, zadd, if_true, if_false, hu.1, hu.2, h5]) (fun F i hi => hst F i (by omega) (fun e => by
        have := (hb i).2 ⟨by omega, e⟩; rw [hH] at this; cases this; omega))
    have h2 : f_X5_nthAt_L5 sp (nI n) (nI (8 + k)) 0 Z 0 0 = some _ := h1
    rw [h2]; rfl
theorem zWould (a : zRC n S W sp we ta num) (b : zRP n S W H T C P O h pu sh ho pa q) {k : Nat} (hk : k < 12) : f_X0_wouldBorrow ta pu (nI k) = if H k = none ∧ 10 ≤ C k then 1 else 0 := by
  unfold f_X0_wouldBorrow
  have hl := zc_le S (8 + k) n
  have := a.1
  have hno := zNo a.1 b hk
  have hC := b.2.2.2.2.1 k hk
  have e : f_X5_numberAt ta (8 + nI k) = nI (zc S (8 + k) n) := by
    rw [show (8 : Int32) = nI 8 from rfl, zadd, zNum a (by omega)]
  have e0 : (nI (zc S (8 + k) n) = 0) = (zc S (8 + k) n = 0) := zeq (b := 0) (by omega) (by omega)
  rw [e]
  simp (disch := omega) only [zpl1, zpl2, zpl3, zob1, zob2, zob3, zlt, zeq, znn, zn9, zat, zput, zaddc, zag, zas, zl2, zl3, zl4, zl5, zl7, zl8, zl10, zl11, zl12, zl16, zl20, zl22, zl23, zl31, zl32, zl60, zl64, zl80, zl100, zl121, zl181, zl241, zl249, zl261, zl273, zl285, zl297, zl309, zl321, zl322, zl323, zl324, zl325, zl326, zl327, zl500, zl61, zl328, zl329, zl657, zl986, nI_1, z1I, zadd, if_true, if_false, hC.1, e0]
  by_cases hc : C k < 10
  · simp only [hc, if_true]; rw [if_neg (fun x => by omega)]
  · simp only [hc, if_false]
    by_cases hd : H k = none
    · simp only [hno.1 hd, hd]; simp; omega
    · rw [if_neg (fun e => hd (hno.2 e)), if_neg (fun e => hd e.1)]
theorem zCanB (b : zRP n S W H T C P O h pu sh ho pa q) {k : Nat} (hk : k < 12) (hn : n ≤ 60) : f_X7_canBorrow q (nI k) = some (if H k = none ∧ 10 ≤ C k then 1 else 0) := by
  unfold f_X7_canBorrow
  have hC := b.2.2.2.2.1 k hk
  have hq := b.2.1 k hk
  have hb := b.1 k hk
  simp (disch := omega) only [zpl1, zpl2, zpl3, zob1, zob2, zob3, zlt, zeq, znn, zn9, zat, zput, zaddc, zag, zas, zl2, zl3, zl4, zl5, zl7, zl8, zl10, zl11, zl12, zl16, zl20, zl22, zl23, zl31, zl32, zl60, zl64, zl80, zl100, zl121, zl181, zl241, zl249, zl261, zl273, zl285, zl297, zl309, zl321, zl322, zl323, zl324, zl325, zl326, zl327, zl500, zl61, zl328, zl329, zl657, zl986, nI_1, z1I, zadd, if_true, if_false, hq, hC.2.1]
  cases hH : H k with
  | none =>
    simp only [zev]
    by_cases hc : C k < 10
    · simp [hc]
    · simp [hc]
  | some u =>
    have := (hb u).1 hH
    simp only [zev]
    simp (disch := omega) only [zpl1, zpl2, zpl3, zob1, zob2, zob3, zlt, zeq, znn, zn9, zat, zput, zaddc, zag, zas, zl2, zl3, zl4, zl5, zl7, zl8, zl10, zl11, zl12, zl16, zl20, zl22, zl23, zl31, zl32, zl60, zl64, zl80, zl100, zl121, zl181, zl241, zl249, zl261, zl273, zl285, zl297, zl309, zl321, zl322, zl323, zl324, zl325, zl326, zl327, zl500, zl61, zl328, zl329, zl657, zl986, nI_1, z1I, zadd, if_true, if_false]
    simp
def zfee (r t : Nat) (w : Nat) : Nat := min 10 (r * t + (if w < 32 then 0 else 4))
theorem zFee (a : zRC n S W sp we ta num) (b : zRP n S W H T C P O h pu sh ho pa q) {Z k u m rn : Nat} (hZ : 100 < Z) (hk : k < 12) (hu : H k = some u) (hr : r ≤ 5) (hh : h ≤ 600) (hm : m ≤ 50) (hrn : rn ≤ 9) : f_X0_feeAfter Z sp we num sh (nI r) (nI k) (nI m) (nI rn) = some (nI (zfee r (T k + (if rn < 2 then 0 else m)) (zit (fun x => zwo x rn 0) m (W u)))) := by
  have hi := zHand a b hZ hk
  have hT := b.2.2.1 k hk
  have hun := (b.1 k hk u).1 hu
  have hn := a.1
  have hw := a.2.2.2.1 u
  have h64 := zit_le (f := fun x => zwo x rn 0) hw (fun x => zwo_le x rn 0) m
  unfold f_X0_feeAfter
  rw [hi, zob1, hu]
  simp only [zev]
  rw [zat (by omega) (by omega), a.2.2.2.2.2.2.1 u (by omega), zFeeL hZ hw hrn hm, zob1]
  simp (disch := omega) only [zpl1, zpl2, zpl3, zob1, zob2, zob3, zlt, zeq, znn, zn9, zat, zput, zaddc, zag, zas, zl2, zl3, zl4, zl5, zl7, zl8, zl10, zl11, zl12, zl16, zl20, zl22, zl23, zl31, zl32, zl60, zl64, zl80, zl100, zl121, zl181, zl241, zl249, zl261, zl273, zl285, zl297, zl309, zl321, zl322, zl323, zl324, zl325, zl326, zl327, zl500, zl61, zl328, zl329, zl657, zl986, nI_1, z1I, zadd, if_true, if_false, hT.1]
  have e1 : (if rn < 2 then (0 : Int32) else nI m) = nI (if rn < 2 then 0 else m) := zite 0 m
  have e2 : ∀ w : Nat, (if w < 32 then (0 : Int32) else 4) = nI (if w < 32 then 0 else 4) := fun w => zite 0 4
  have hb1 : r * (T k + (if rn < 2 then 0 else m)) ≤ 5 * 650 := Nat.mul_le_mul hr (by split <;> omega)
  simp only [e1, zadd, zmul]
  have hb2 : (if zit (fun x => zwo x rn 0) m (W u) < 32 then 0 else 4) ≤ 4 := by split <;> omega
  rw [show (if zit (fun x => zwo x rn 0) m (W u) < 32 then (0 : Int32) else nI 4) = nI (if zit (fun x => zwo x rn 0) m (W u) < 32 then 0 else 4) from zite 0 4]
  unfold zfee
  generalize (if zit (fun x => zwo x rn 0) m (W u) < 32 then 0 else 4) = f4 at hb2 ⊢
  rw [zadd, zmin (by omega) (by omega)]
theorem zFeeM (g : q 327 = nI r) {t : Nat} {f : Int32} {w : Nat} (hf : f = if w < 32 then 0 else 1) (hr : r ≤ 5) (ht : t ≤ 650) : f_X7_fee q (nI t) f = some (nI (zfee r t w)) := by
  subst hf
  unfold f_X7_fee
  have hb1 : r * t ≤ 5 * 650 := Nat.mul_le_mul hr ht
  simp (disch := omega) only [zpl1, zpl2, zpl3, zob1, zob2, zob3, zlt, zeq, znn, zn9, zat, zput, zaddc, zag, zas, zl2, zl3, zl4, zl5, zl7, zl8, zl10, zl11, zl12, zl16, zl20, zl22, zl23, zl31, zl32, zl60, zl64, zl80, zl100, zl121, zl181, zl241, zl249, zl261, zl273, zl285, zl297, zl309, zl321, zl322, zl323, zl324, zl325, zl326, zl327, zl500, zl61, zl328, zl329, zl657, zl986, nI_1, z1I, zadd, if_true, if_false, g, zmul]
  have e2 : (if (if w < 32 then (0 : Int32) else 1) = 0 then (0 : Int32) else nI 4) = nI (if w < 32 then 0 else 4) := by
    by_cases hw : w < 32 <;> simp [hw, nI_0]
  rw [e2, zadd]
  have hb2 : (if w < 32 then 0 else 4) ≤ 4 := by split <;> omega
  simp (disch := omega) only [zpl1, zpl2, zpl3, zob1, zob2, zob3, zlt, zeq, znn, zn9, zat, zput, zaddc, zag, zas, zl2, zl3, zl4, zl5, zl7, zl8, zl10, zl11, zl12, zl16, zl20, zl22, zl23, zl31, zl32, zl60, zl64, zl80, zl100, zl121, zl181, zl241, zl249, zl261, zl273, zl285, zl297, zl309, zl321, zl322, zl323, zl324, zl325, zl326, zl327, zl500, zl61, zl328, zl329, zl657, zl986, nI_1, z1I, zadd, if_true, if_false]
  unfold zfee
  generalize (if w < 32 then 0 else 4) = f4 at hb2 ⊢
  split <;> (congr 2; omega)
end pr
