theorem znI_of {p : Int32} {m : Nat} (hm : m < 1000) (h1 : ¬ p < 0) (h2 : ¬ nI m < p) : ∃ j, j ≤ m ∧ p = nI j := nI_of2 (M := nI m) (nI_toInt (by omega)) h1 (Int32.not_lt.mp h2)
theorem yout {m j : Nat} (hm : m < 1000) (hj : j ≤ m) : f_X6_outside (nI j) 0 (nI m) = 0 := by
  unfold f_X6_outside
  have h2 : ¬ nI m < nI j := by rw [zlt (by omega) (by omega)]; omega
  rw [if_neg (nI_pos (by omega)), if_neg h2]
theorem youtI {m j : Nat} {M : Int32} (hM : M = nI m) (hm : m < 1000) (hj : j ≤ m) : f_X6_outside (nI j) 0 M = 0 := by subst hM; exact yout hm hj
theorem yout1 {m j : Nat} {M : Int32} (hM : M = nI m) (hm : m < 1000) (h1 : 1 ≤ j) (hj : j ≤ m) : f_X6_outside (nI j) 1 M = 0 := by
  subst hM
  unfold f_X6_outside
  have h2 : ¬ nI m < nI j := by rw [zlt (by omega) (by omega)]; omega
  have h3 : ¬ nI j < 1 := by rw [show (1 : Int32) = nI 1 from rfl, zlt (by omega) (by omega)]; omega
  rw [if_neg h3, if_neg h2]
theorem yoi {m j : Nat} {M : Int32} (hM : M = nI m) (hm : m < 1000) (hj : m < j) (hj2 : j < 1000) : f_X6_outside (nI j) 0 M = 1 := by
  subst hM
  unfold f_X6_outside
  have h2 : nI m < nI j := by rw [zlt (by omega) (by omega)]; omega
  rw [if_neg (nI_pos (by omega)), if_pos h2]
def zup (S : Nat → Nat) (u t : Nat) : Nat → Nat := fun v => if v = u then t else S v
theorem zup_s {S : Nat → Nat} {u t v : Nat} (h : v = u) : zup S u t v = t := by unfold zup; rw [if_pos h]
theorem zup_n {S : Nat → Nat} {u t v : Nat} (h : v ≠ u) : zup S u t v = S v := by unfold zup; rw [if_neg h]
theorem zc_up {S : Nat → Nat} {u t s n : Nat} (hu : u < n) : zc (zup S u t) s n + zid (S u = s) = zc S s n + zid (t = s) := by
  have := zsm_upd (f := fun v => zid (S v = s)) (g := fun v => zid (zup S u t v = s)) (n := n) (k := u) hu (fun i _ hne => by simp only [zup_n hne])
  simp only [zup_s] at this
  exact this
def zbk (W : Nat → Nat) : Option Nat → Nat
  | none => 0
  | some u => zid (32 ≤ W u)
/-- hands, showers, purses, homes -/
def yP (n : Nat) (S : Nat → Nat) (H : Nat → Option Nat) (T C P O : Nat → Nat) (h : Nat) (pu sh ho pa : Nat → Int32) : Prop :=
  (∀ k, k < 12 → ∀ u, H k = some u ↔ (u < n ∧ S u = 8 + k)) ∧ (∀ k, k < 12 → sh k = nI (T k) ∧ T k ≤ h ∧ (H k = none → T k = 0)) ∧
  (∀ k, k < 12 → pu k = nI (C k) ∧ pa k = nI (P k) ∧ C k + P k + (if H k = none then 0 else 10) = 40) ∧
  (∀ k, k < 12 → ho k = nI (O k) ∧ O k < 8)
/-- rooms, house, lendings, workshop -/
def yG (n : Nat) (S W P R Y : Nat → Nat) (h r hs sn : Nat) (rooms le : Nat → Int32) (hours house spent loans rate : Int32) : Prop :=
  (∀ s, s < 8 → rooms s = nI (R s) ∧ R s ≤ 20 ∧ zc S s n ≤ R s) ∧ hours = nI h ∧ house = nI hs ∧ spent = nI sn ∧ rate = nI r ∧ r ≤ 5 ∧ h ≤ 100 ∧
  hs + sn = 100 + zsm P 12 + 10 * zk S 1 n ∧ 10 * zk S 1 n ≤ hs ∧ (∀ u, u < 60 → le u = nI (Y u)) ∧ (∀ u, n ≤ u → Y u = 0) ∧ loans = nI (zsm Y n) ∧ (∀ u, u < n → S u = 22 → 32 ≤ W u)
def yD (n : Nat) (S W : Nat → Nat) (H : Nat → Option Nat) (T C P O R Y : Nat → Nat) (h r hs sn : Nat) (sp we le ta : Nat → Int32) (num : Int32) (rooms pu sh ho pa : Nat → Int32) (hours house spent loans rate : Int32) : Prop :=
  zRC n S W sp we ta num ∧ yP n S H T C P O h pu sh ho pa ∧ yG n S W P R Y h r hs sn rooms le hours house spent loans rate
def yC (n : Nat) (S W : Nat → Nat) (H : Nat → Option Nat) (T C P O R Y : Nat → Nat) (h r hs sn : Nat) (c : CV) : Prop :=
  yD n S W H T C P O R Y h r hs sn c.1 c.2.1 c.2.2.1 c.2.2.2.1 c.2.2.2.2.1 c.2.2.2.2.2.1 c.2.2.2.2.2.2.1 c.2.2.2.2.2.2.2.1 c.2.2.2.2.2.2.2.2.1 c.2.2.2.2.2.2.2.2.2.1 c.2.2.2.2.2.2.2.2.2.2.1 c.2.2.2.2.2.2.2.2.2.2.2.1 c.2.2.2.2.2.2.2.2.2.2.2.2.1 c.2.2.2.2.2.2.2.2.2.2.2.2.2.1 c.2.2.2.2.2.2.2.2.2.2.2.2.2.2.2
section fr
variable {n : Nat} {S W : Nat → Nat} {H : Nat → Option Nat} {T C P O : Nat → Nat} {h r : Nat} {sp we le ta : Nat → Int32} {num : Int32} {rooms pu sh ho pa : Nat → Int32} {hours house spent loans surges rate : Int32}
theorem yP.mv {u t : Nat} (a : yP n S H T C P O h pu sh ho pa) (h1 : ¬ (8 ≤ S u ∧ S u < 20)) (h2 : ¬ (8 ≤ t ∧ t < 20)) : yP n (zup S u t) H T C P O h pu sh ho pa := by
  refine ⟨fun k hk v => ?_, a.2⟩
  rw [a.1 k hk v]
  by_cases hv : v = u
  · subst hv
    rw [zup_s rfl]
    constructor
    · rintro ⟨x, y⟩; omega
    · rintro ⟨x, y⟩; omega
  · rw [zup_n hv]
theorem zMv (a : zRC n S W sp we ta num) {u t : Nat} (hu : u < n) (ht : t < 24) : zRC n (zup S u t) W (f_X5_move sp ta (nI u) (nI t)).1 we (f_X5_move sp ta (nI u) (nI t)).2 num := by
  obtain ⟨h0, rfl, h2, h3, h4, h5, h6, h7⟩ := a
  have hS := h2 u hu
  unfold f_X5_move
  rw [zput (by omega) (by omega), zat (by omega) (by omega), h5 u hu, zaddc (u := S u) (by omega) (by omega), zaddc (u := t) (by omega) (by omega)]
  refine ⟨h0, rfl, fun v hv => ?_, h3, h4, fun v hv => ?_, h6, fun s hs => ?_⟩
  · by_cases hc : v = u
    · rw [zup_s hc]; omega
    · rw [zup_n hc]; exact h2 v hv
  · show upd sp u (nI t) v = _
    by_cases hc : v = u
    · rw [zup_s hc, zus hc]
    · rw [zup_n hc, zun hc]; exact h5 v hv
  · show upd (upd ta (S u) (ta (S u) + -1)) t (upd ta (S u) (ta (S u) + -1) t + 1) s = _
    have hz := zc_up (S := S) (u := u) (t := t) (s := s) hu
    have hz1 := zc_le S s n
    have hm : ∀ x : Nat, 0 < x → nI x + -1 = nI (x - 1) := fun x hx => by
      obtain ⟨y, rfl⟩ : ∃ y, x = y + 1 := ⟨x - 1, by omega⟩
      rw [Nat.add_sub_cancel, nI_succ, Int32.add_assoc]; simp
    by_cases ha : t = s
    · subst ha
      rw [zus rfl]
      by_cases hb : S u = t
      · rw [zus hb.symm, hb, h7 t hs]
        simp only [zid, hb, if_true] at hz
        have hp : 0 < zc S t n := zsm_pos.2 ⟨u, hu, by simp [zid, hb]⟩
        rw [hm _ hp, nI_1]; congr 1; omega
      · rw [zun (fun h => hb h.symm), h7 t hs, nI_1]
        simp only [zid, hb, if_true, if_false] at hz
        congr 1; omega
    · rw [zun (fun h => ha h.symm)]
      by_cases hb : S u = s
      · subst hb
        rw [zus rfl, h7 _ hs]
        have hp : 0 < zc S (S u) n := zsm_pos.2 ⟨u, hu, by simp [zid]⟩
        simp only [zid, if_true, if_neg ha] at hz
        rw [hm _ hp]; congr 1; omega
      · rw [zun (fun h => hb h.symm), h7 _ hs]
        simp only [zid, if_neg hb, if_neg ha] at hz
        congr 1; omega
/-- who has none -/
theorem zNo (hn : n ≤ 60) (a : yP n S H T C P O h pu sh ho pa) {k : Nat} (hk : k < 12) : H k = none ↔ zc S (8 + k) n = 0 := by
  constructor
  · intro e
    refine zsm_none (fun u hu => ?_)
    have := (a.1 k hk u).2
    unfold zid
    rw [if_neg]
    intro hs
    have := this ⟨hu, hs⟩
    rw [e] at this; cases this
  · intro e
    cases hH : H k with
    | none => rfl
    | some u =>
      have := (a.1 k hk u).1 hH
      have hp : 0 < zc S (8 + k) n := zsm_pos.2 ⟨u, this.1, by simp [zid, this.2]⟩
      omega
end fr
def zwo (w r g : Nat) : Nat := min 64 (w + (if w < 16 then r else 2 * r) + 2 * g)
theorem zwo_le (w r g : Nat) : zwo w r g ≤ 64 := by unfold zwo; omega
theorem zwo_ge {w : Nat} (r g : Nat) (h : w ≤ 64) : w ≤ zwo w r g := by unfold zwo; split <;> omega
theorem zmin {a b : Nat} (ha : a < 1000000) (hb : b < 1000000) : imin (nI a) (nI b) = nI (min a b) := by
  unfold imin
  simp (disch := omega) only [zpl1, zpl2, zpl3, zob1, zob2, zob3, zlt, zeq, znn, zn9, zat, zput, zaddc, zag, zas, zl2, zl3, zl4, zl5, zl6, zl7, zl8, zl10, zl12, zl16, zl20, zl22, zl23, zl30, zl31, zl32, zl60, zl64, zl80, zl100, zl500, zl580, nI_1, z1I, zadd, if_true, if_false]
  by_cases h : b < a
  · simp only [h, if_true]; congr 1; omega
  · simp only [h, if_false]; congr 1; omega
theorem zmax {a b : Nat} (ha : a < 1000000) (hb : b < 1000000) : imax (nI a) (nI b) = nI (max a b) := by
  unfold imax
  simp (disch := omega) only [zpl1, zpl2, zpl3, zob1, zob2, zob3, zlt, zeq, znn, zn9, zat, zput, zaddc, zag, zas, zl2, zl3, zl4, zl5, zl6, zl7, zl8, zl10, zl12, zl16, zl20, zl22, zl23, zl30, zl31, zl32, zl60, zl64, zl80, zl100, zl500, zl580, nI_1, z1I, zadd, if_true, if_false]
  by_cases h : a < b
  · simp only [h, if_true]; congr 1; omega
  · simp only [h, if_false]; congr 1; omega
theorem zite {p : Prop} [Decidable p] (a b : Nat) : (if p then nI a else nI b) = nI (if p then a else b) := by split <;> rfl
theorem zWorn {w r g : Nat} (hw : w ≤ 64) (hr : r ≤ 9) (hg : g ≤ 3) : f_X6_wornBy (nI w) (nI r) (nI g) = nI (zwo w r g) := by
  unfold f_X6_wornBy
  simp (disch := omega) only [zpl1, zpl2, zpl3, zob1, zob2, zob3, zlt, zeq, znn, zn9, zat, zput, zaddc, zag, zas, zl2, zl3, zl4, zl5, zl6, zl7, zl8, zl10, zl12, zl16, zl20, zl22, zl23, zl30, zl31, zl32, zl60, zl64, zl80, zl100, zl500, zl580, nI_1, z1I, zadd, if_true, if_false, zmul]
  rw [zite, zadd, zadd, zmin (by omega) (by split <;> omega)]
  rfl
def zit (f : Nat → Nat) : Nat → Nat → Nat
  | 0, w => w
  | k + 1, w => f (zit f k w)
theorem zit_le {f : Nat → Nat} {w : Nat} (hw : w ≤ 64) (hf : ∀ x, f x ≤ 64) (k : Nat) : zit f k w ≤ 64 := by
  cases k with
  | zero => exact hw
  | succ k => exact hf _
theorem zit_ge {f : Nat → Nat} {w : Nat} (hw : w ≤ 64) (hf : ∀ x, f x ≤ 64) (hg : ∀ x, x ≤ 64 → x ≤ f x) (k : Nat) : w ≤ zit f k w := by
  induction k with
  | zero => exact Nat.le_refl _
  | succ k ih => exact Nat.le_trans ih (hg _ (zit_le hw hf k))
theorem zFeeL {Z w r m : Nat} (hZ : 100 < Z) (hw : w ≤ 64) (hr : r ≤ 9) (hm : m ≤ 50) : f_X0_feeAfter_L20 (nI m) (nI r) Z (nI w) 0 = some (nI (zit (fun x => zwo x r 0) m w)) :=
  zloop0 (fun F (a : Int32) i => f_X0_feeAfter_L20 (nI m) (nI r) F a i) (fun i => nI (zit (fun x => zwo x r 0) i w)) m _ (F := Z) (by omega) (fun F => by
    show f_X0_feeAfter_L20 (nI m) (nI r) (F + 1) _ _ = _
    rw [f_X0_feeAfter_L20]
    simp (disch := omega) only [zpl1, zpl2, zpl3, zob1, zob2, zob3, zlt, zeq, znn, zn9, zat, zput, zaddc, zag, zas, zl2, zl3, zl4, zl5, zl6, zl7, zl8, zl10, zl12, zl16, zl20, zl22, zl23, zl30, zl31, zl32, zl60, zl64, zl80, zl100, zl500, zl580, nI_1, z1I, zadd, if_true, if_false, Nat.lt_irrefl]) (fun F i hi => by
    show f_X0_feeAfter_L20 (nI m) (nI r) (F + 1) _ _ = f_X0_feeAfter_L20 (nI m) (nI r) F _ _
    have h64 := zit_le (f := fun x => zwo x r 0) hw (fun x => zwo_le x r 0) i
    rw [f_X0_feeAfter_L20, show (0 : Int32) = nI 0 from rfl, zWorn h64 hr (by omega)]
    simp (disch := omega) only [zpl1, zpl2, zpl3, zob1, zob2, zob3, zlt, zeq, znn, zn9, zat, zput, zaddc, zag, zas, zl2, zl3, zl4, zl5, zl6, zl7, zl8, zl10, zl12, zl16, zl20, zl22, zl23, zl30, zl31, zl32, zl60, zl64, zl80, zl100, zl500, zl580, nI_1, z1I, zadd, if_true, if_false, hi]
    rfl)
section pr
variable {n : Nat} {S W : Nat → Nat} {H : Nat → Option Nat} {T C P O : Nat → Nat} {h r : Nat} {sp we le ta : Nat → Int32} {num : Int32} {rooms pu sh ho pa : Nat → Int32} {hours house spent loans surges rate : Int32}
theorem zHas (a : zRC n S W sp we ta num) (b : yP n S H T C P O h pu sh ho pa) {k : Nat} (hk : k < 12) : f_X0_hasOne ta (nI k) = if H k = none then 0 else 1 := by
  unfold f_X0_hasOne
  have hl := zc_le S (8 + k) n
  have := a.1
  have hno := zNo a.1 b hk
  have e : f_X5_numberAt ta (8 + nI k) = nI (zc S (8 + k) n) := by
    rw [show (8 : Int32) = nI 8 from rfl, zadd, zNum a (by omega)]
  rw [e, show (0 : Int32) = nI 0 from rfl]
  simp (disch := omega) only [zpl1, zpl2, zpl3, zob1, zob2, zob3, zlt, zeq, znn, zn9, zat, zput, zaddc, zag, zas, zl2, zl3, zl4, zl5, zl6, zl7, zl8, zl10, zl12, zl16, zl20, zl22, zl23, zl30, zl31, zl32, zl60, zl64, zl80, zl100, zl500, zl580, nI_1, z1I, zadd, if_true, if_false]
  by_cases hc : zc S (8 + k) n = 0
  · rw [if_neg (by omega), if_pos (hno.2 hc)]
  · rw [if_pos (by omega), if_neg (fun e => hc (hno.1 e))]
theorem zHand (a : zRC n S W sp we ta num) (b : yP n S H T C P O h pu sh ho pa) {Z k : Nat} (hZ : 100 < Z) (hk : k < 12) : f_X0_inHand Z sp num (nI k) = some (zev (-9) (H k)) := by
  have hb := b.1 k hk
  obtain ⟨h0, rfl, h2, h3, h4, h5, h6, h7⟩ := a
  unfold f_X0_inHand f_X5_nthAt
  have e8 : (8 : Int32) + nI k = nI (8 + k) := by rw [show (8 : Int32) = nI 8 from rfl, zadd]
  rw [e8]
  have hst : ∀ F i, i < n → S i ≠ 8 + k → f_X5_nthAt_L5 sp (nI n) (nI (8 + k)) 0 (F + 1) 0 (nI i) = f_X5_nthAt_L5 sp (nI n) (nI (8 + k)) 0 F 0 (nI (i + 1)) := fun F i hi hne => by
    have := h2 i hi
    rw [f_X5_nthAt_L5]
    simp (disch := omega) only [zpl1, zpl2, zpl3, zob1, zob2, zob3, zlt, zeq, znn, zn9, zat, zput, zaddc, zag, zas, zl2, zl3, zl4, zl5, zl6, zl7, zl8, zl10, zl12, zl16, zl20, zl22, zl23, zl30, zl31, zl32, zl60, zl64, zl80, zl100, zl500, zl580, nI_1, z1I, zadd, if_true, if_false, hi, h5, hne]
  cases hH : H k with
  | none =>
    have h1 := zloop0 (fun F (_ : Unit) i => f_X5_nthAt_L5 sp (nI n) (nI (8 + k)) 0 F 0 i) (fun i => ()) n (-9) (F := Z) (by omega) (fun F => by
      show f_X5_nthAt_L5 sp (nI n) (nI (8 + k)) 0 (F + 1) 0 _ = _
      rw [f_X5_nthAt_L5]
      simp (disch := omega) only [zpl1, zpl2, zpl3, zob1, zob2, zob3, zlt, zeq, znn, zn9, zat, zput, zaddc, zag, zas, zl2, zl3, zl4, zl5, zl6, zl7, zl8, zl10, zl12, zl16, zl20, zl22, zl23, zl30, zl31, zl32, zl60, zl64, zl80, zl100, zl500, zl580, nI_1, z1I, zadd, if_true, if_false, Nat.lt_irrefl]) (fun F i hi => hst F i hi (fun e => by have := (hb i).2 ⟨hi, e⟩; rw [hH] at this; cases this))
    have h2 : f_X5_nthAt_L5 sp (nI n) (nI (8 + k)) 0 Z 0 0 = some _ := h1
    rw [h2]; rfl
  | some u =>
    have hu := (hb u).1 hH
    have h1 := zloop0 (fun F (_ : Unit) i => f_X5_nthAt_L5 sp (nI n) (nI (8 + k)) 0 F 0 i) (fun i => ()) u (nI u) (F := Z) (by omega) (fun F => by
      show f_X5_nthAt_L5 sp (nI n) (nI (8 + k)) 0 (F + 1) 0 _ = _
      rw [f_X5_nthAt_L5]
      have := hu.1
      simp (disch := omega) only [zpl1, zpl2, zpl3, zob1, zob2, zob3, zlt, zeq, znn, zn9, zat, zput, zaddc, zag, zas, zl2, zl3, zl4, zl5, zl6, zl7, zl8, zl10, zl12, zl16, zl20, zl22, zl23, zl30, zl31, zl32, zl60, zl64, zl80, zl100, zl500, zl580, nI_1, z1I, zadd, if_true, if_false, hu.1, hu.2, h5]) (fun F i hi => hst F i (by omega) (fun e => by
        have := (hb i).2 ⟨by omega, e⟩; rw [hH] at this; cases this; omega))
    have h2 : f_X5_nthAt_L5 sp (nI n) (nI (8 + k)) 0 Z 0 0 = some _ := h1
    rw [h2]; rfl
theorem zWould (a : zRC n S W sp we ta num) (b : yP n S H T C P O h pu sh ho pa) {k : Nat} (hk : k < 12) : f_X0_wouldBorrow ta pu (nI k) = if H k = none ∧ 10 ≤ C k then 1 else 0 := by
  unfold f_X0_wouldBorrow
  have hl := zc_le S (8 + k) n
  have := a.1
  have hno := zNo a.1 b hk
  have hC := b.2.2.1 k hk
  have e : f_X5_numberAt ta (8 + nI k) = nI (zc S (8 + k) n) := by
    rw [show (8 : Int32) = nI 8 from rfl, zadd, zNum a (by omega)]
  have e0 : (nI (zc S (8 + k) n) = 0) = (zc S (8 + k) n = 0) := zeq (b := 0) (by omega) (by omega)
  rw [e]
  simp (disch := omega) only [zpl1, zpl2, zpl3, zob1, zob2, zob3, zlt, zeq, znn, zn9, zat, zput, zaddc, zag, zas, zl2, zl3, zl4, zl5, zl6, zl7, zl8, zl10, zl12, zl16, zl20, zl22, zl23, zl30, zl31, zl32, zl60, zl64, zl80, zl100, zl500, zl580, nI_1, z1I, zadd, if_true, if_false, hC.1, e0]
  by_cases hc : C k < 10
  · simp only [hc, if_true]; rw [if_neg (fun x => by omega)]
  · simp only [hc, if_false]
    by_cases hd : H k = none
    · simp only [hno.1 hd, hd]; simp; omega
    · rw [if_neg (fun e => hd (hno.2 e)), if_neg (fun e => hd e.1)]
def zfee (r t : Nat) (w : Nat) : Nat := min 10 (r * t + (if w < 32 then 0 else 4))
theorem zfee_le (r t w : Nat) : zfee r t w ≤ 10 := by unfold zfee; omega
theorem zFee (a : zRC n S W sp we ta num) (b : yP n S H T C P O h pu sh ho pa) {Z k u m rn : Nat} (hZ : 100 < Z) (hk : k < 12) (hu : H k = some u) (hr : r ≤ 5) (hh : h ≤ 600) (hm : m ≤ 50) (hrn : rn ≤ 9) : f_X0_feeAfter Z sp we num sh (nI r) (nI k) (nI m) (nI rn) = some (nI (zfee r (T k + (if rn < 2 then 0 else m)) (zit (fun x => zwo x rn 0) m (W u)))) := by
  have hi := zHand a b hZ hk
  have hT := b.2.1 k hk
  have hun := (b.1 k hk u).1 hu
  have hn := a.1
  have hw := a.2.2.2.1 u
  have h64 := zit_le (f := fun x => zwo x rn 0) hw (fun x => zwo_le x rn 0) m
  unfold f_X0_feeAfter
  rw [hi, zob1, hu]
  simp only [zev]
  rw [zat (by omega) (by omega), a.2.2.2.2.2.2.1 u (by omega), zFeeL hZ hw hrn hm, zob1]
  simp (disch := omega) only [zpl1, zpl2, zpl3, zob1, zob2, zob3, zlt, zeq, znn, zn9, zat, zput, zaddc, zag, zas, zl2, zl3, zl4, zl5, zl6, zl7, zl8, zl10, zl12, zl16, zl20, zl22, zl23, zl30, zl31, zl32, zl60, zl64, zl80, zl100, zl500, zl580, nI_1, z1I, zadd, if_true, if_false, hT.1]
  have e1 : (if rn < 2 then (0 : Int32) else nI m) = nI (if rn < 2 then 0 else m) := zite 0 m
  have e2 : ∀ w : Nat, (if w < 32 then (0 : Int32) else 4) = nI (if w < 32 then 0 else 4) := fun w => zite 0 4
  have hb1 : r * (T k + (if rn < 2 then 0 else m)) ≤ 5 * 650 := Nat.mul_le_mul hr (by split <;> omega)
  simp only [e1, zadd, zmul]
  have hb2 : (if zit (fun x => zwo x rn 0) m (W u) < 32 then 0 else 4) ≤ 4 := by split <;> omega
  rw [show (if zit (fun x => zwo x rn 0) m (W u) < 32 then (0 : Int32) else nI 4) = nI (if zit (fun x => zwo x rn 0) m (W u) < 32 then 0 else 4) from zite 0 4]
  unfold zfee
  generalize (if zit (fun x => zwo x rn 0) m (W u) < 32 then 0 else 4) = f4 at hb2 ⊢
  rw [zadd, zmin (by omega) (by omega)]
end pr
def zhb (r g : Nat) : Nat → Nat → Nat → Option Nat
  | 0, w, p => if 32 ≤ w then some p else none
  | k + 1, w, p => if 32 ≤ w then some p else zhb r g k (zwo w r g) (p + 1)
theorem zHb {w r g : Nat} (hr : r ≤ 9) (hg : g ≤ 3) : ∀ k w p F, w ≤ 64 → p + k = 100 → k + 3 < F → f_X0_hoursToBreak_L20 (nI r) (nI g) F (nI w) (nI p) = some (zev (-9) (zhb r g k w p)) := by
  intro k
  induction k with
  | zero =>
    intro w p F hw hp hF
    obtain ⟨F, rfl⟩ : ∃ G, F = G + 1 + 1 := ⟨F - 2, by omega⟩
    have hp' : p = 100 := by omega
    subst hp'
    have e2 : f_X0_hoursToBreak_L20 (nI r) (nI g) (F + 1) (nI (zwo w r g)) (nI 101) = some (-9) := by
      rw [f_X0_hoursToBreak_L20, if_pos (by decide)]
    rw [f_X0_hoursToBreak_L20, zWorn hw hr hg, show nI 100 + 1 = nI 101 from rfl, e2]
    unfold zhb
    simp (disch := omega) only [zpl1, zpl2, zpl3, zob1, zob2, zob3, zlt, zeq, znn, zn9, zat, zput, zaddc, zag, zas, zl2, zl3, zl4, zl5, zl6, zl7, zl8, zl10, zl12, zl16, zl20, zl22, zl23, zl30, zl31, zl32, zl60, zl64, zl80, zl100, zl500, zl580, nI_1, z1I, zadd, if_true, if_false, Nat.lt_irrefl]
    by_cases h : w < 32
    · rw [if_pos h, if_neg (by omega)]; rfl
    · rw [if_neg h, if_pos (by omega)]; rfl
  | succ k ih =>
    intro w p F hw hp hF
    obtain ⟨F, rfl⟩ : ∃ G, F = G + 1 := ⟨F - 1, by omega⟩
    rw [f_X0_hoursToBreak_L20, zWorn hw hr hg]
    have e : ¬ 100 < p := by omega
    simp (disch := omega) only [zpl1, zpl2, zpl3, zob1, zob2, zob3, zlt, zeq, znn, zn9, zat, zput, zaddc, zag, zas, zl2, zl3, zl4, zl5, zl6, zl7, zl8, zl10, zl12, zl16, zl20, zl22, zl23, zl30, zl31, zl32, zl60, zl64, zl80, zl100, zl500, zl580, nI_1, z1I, zadd, if_true, if_false, e]
    unfold zhb
    by_cases h : w < 32
    · rw [if_pos h, if_neg (by omega)]; exact ih _ _ F (zwo_le _ _ _) (by omega) (by omega)
    · rw [if_neg h, if_pos (by omega)]; rfl
def zwant (H : Nat → Option Nat) (C O : Nat → Nat) (s m : Nat) : Nat := zsm (fun k => zid (O k = s ∧ H k = none ∧ 10 ≤ C k)) m
section wl
variable {n : Nat} {S W : Nat → Nat} {H : Nat → Option Nat} {T C P O : Nat → Nat} {h r : Nat} {sp we le ta : Nat → Int32} {num : Int32} {rooms pu sh ho pa : Nat → Int32} {hours house spent loans surges rate : Int32}
theorem zLack (aC : zRC n S W sp we ta num) (aP : yP n S H T C P O h pu sh ho pa) {Z s : Nat} (hZ : 100 < Z) (hs : s < 8) : f_X0_lackAt Z sp we ta num pu ho (nI s) = some (nI (zwant H C O s 12) - nI (zc S s n - zb S W s n)) := by
  unfold f_X0_lackAt
  have hw := fun k (hk : k < 12) => zWould aC aP hk
  have h1 := zloop0 (fun F (a : Int32) i => f_X0_lackAt_L4 ta pu ho (nI s) F a i) (fun i => nI (zwant H C O s i)) 12 (nI (zwant H C O s 12)) (F := Z) (by omega) (fun F => by
    show f_X0_lackAt_L4 ta pu ho (nI s) (F + 1) _ _ = _
    rw [f_X0_lackAt_L4, if_neg (by decide)]) (fun F i hi => by
    show f_X0_lackAt_L4 ta pu ho (nI s) (F + 1) _ _ = f_X0_lackAt_L4 ta pu ho (nI s) F _ _
    have hO := aP.2.2.2 i hi
    have := hO.2
    rw [f_X0_lackAt_L4]
    simp (disch := omega) only [zpl1, zpl2, zpl3, zob1, zob2, zob3, zlt, zeq, znn, zn9, zat, zput, zaddc, zag, zas, zl2, zl3, zl4, zl5, zl6, zl7, zl8, zl10, zl12, zl16, zl20, zl22, zl23, zl30, zl31, zl32, zl60, zl64, zl80, zl100, zl500, zl580, nI_1, z1I, zadd, if_true, if_false, hi, hw, hO.1]
    simp only [zwant, zsm, zid]
    by_cases hc : O i = s
    · by_cases hd : H i = none ∧ 10 ≤ C i
      · simp [hc, hd, nI_1]
      · simp only [hc, hd]; simp
    · simp [hc])
  have h2 : f_X0_lackAt_L4 ta pu ho (nI s) Z 0 0 = some _ := h1
  rw [h2, zob1, zWholeAt aC hZ (by omega), zob1]
end wl
theorem zlneg {a b : Nat} (ha : a < 1000) (hb : b < 1000) : (nI a - nI b < 0) = (a < b) := by
  rw [Int32.lt_iff_toInt_lt, Int32.toInt_sub, nI_toInt (by omega), nI_toInt (by omega), Int.bmod_eq_of_le (by omega) (by omega)]
  show ((a : Int) - (b : Int) < 0) = _
  apply propext; omega
def zes (p : Nat → Prop) [∀ i, Decidable (p i)] : Nat → Int32
  | 0 => 0
  | i + 1 => if p i then zes p i ||| (1 <<< (nI i &&& 31)) else zes p i
theorem zSum {Z : Nat} (hZ : 5000 < Z) {f : Nat → Int32} {g : Nat → Nat} (h : ∀ k, k < 12 → f k = nI (g k)) : f_X2_sum Z 12 f = some (nI (zsm g 12)) := by
  unfold f_X2_sum
  have h1 := zloop0 (fun F (x : Int32) i => f_X2_sum_L13 12 f F x i) (fun i => nI (zsm g i)) 12 (nI (zsm g 12)) (F := Z) (by omega) (fun F => by
    show f_X2_sum_L13 12 f (F + 1) _ _ = _
    rw [f_X2_sum_L13, if_neg (by decide)]) (fun F i hi => by
    show f_X2_sum_L13 12 f (F + 1) _ _ = f_X2_sum_L13 12 f F _ _
    rw [f_X2_sum_L13, if_pos (nI_lt hi (by decide)), zag hi (by omega), zob1, h i hi, zadd, nI_1]; rfl)
  have h2 : f_X2_sum_L13 12 f Z 0 0 = some _ := h1
  rw [h2]; rfl
theorem z10 : ((1 : Int32) = 0) = False := by simp
