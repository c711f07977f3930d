theorem znI_of {p : Int32} {m : Nat} (hm : m < 1000) (h1 : ¬ p < 0) (h2 : ¬ nI m < p) : ∃ j, j ≤ m ∧ p = nI j := nI_of2 (M := nI m) (nI_toInt (by omega)) h1 (Int32.not_lt.mp h2)
theorem zrng (m : Nat) (hm : m < 1000) (p : Int32) : (∃ j, j ≤ m ∧ p = nI j ∧ f_X6_outside p 0 (nI m) = 0 ∧ f_X7_in p 0 (nI m) = 1) ∨ (f_X6_outside p 0 (nI m) = 1 ∧ f_X7_in p 0 (nI m) = 0) := by
  unfold f_X6_outside f_X7_in
  by_cases h1 : p < 0
  · right; simp [h1]
  · by_cases h2 : nI m < p
    · right; simp [h1, h2]
    · left
      obtain ⟨j, hj, hp⟩ := znI_of hm h1 h2
      exact ⟨j, hj, hp, by simp [h1, h2], by simp [h1, h2]⟩
theorem zrng1 (m : Nat) (hm : m < 1000) (p : Int32) : (∃ j, 1 ≤ j ∧ j ≤ m ∧ p = nI j ∧ f_X6_outside p 1 (nI m) = 0 ∧ f_X7_in p 1 (nI m) = 1) ∨ (f_X6_outside p 1 (nI m) = 1 ∧ f_X7_in p 1 (nI m) = 0) := by
  unfold f_X6_outside f_X7_in
  by_cases h1 : p < 1
  · right; simp [h1]
  · by_cases h2 : nI m < p
    · right; simp [h1, h2]
    · left
      have h0 : ¬ p < 0 := by
        rw [Int32.lt_iff_toInt_lt] at h1 ⊢
        have e1 : (1 : Int32).toInt = 1 := rfl
        have e0 : (0 : Int32).toInt = 0 := rfl
        omega
      obtain ⟨j, hj, hp⟩ := znI_of hm h0 h2
      refine ⟨j, ?_, hj, hp, by simp [h1, h2], by simp [h1, h2]⟩
      subst hp
      have : ¬ j < 1 := fun hh => h1 (show nI j < nI 1 from nI_lt hh (by decide))
      omega
def zup (S : Nat → Nat) (u t : Nat) : Nat → Nat := fun v => if v = u then t else S v
theorem zup_s {S : Nat → Nat} {u t v : Nat} (h : v = u) : zup S u t v = t := by unfold zup; rw [if_pos h]
theorem zup_n {S : Nat → Nat} {u t v : Nat} (h : v ≠ u) : zup S u t v = S v := by unfold zup; rw [if_neg h]
theorem zc_up {S : Nat → Nat} {u t s n : Nat} (hu : u < n) : zc (zup S u t) s n + zid (S u = s) = zc S s n + zid (t = s) := by
  have := zsm_upd (f := fun v => zid (S v = s)) (g := fun v => zid (zup S u t v = s)) (n := n) (k := u) hu (fun i _ hne => by simp only [zup_n hne])
  simp only [zup_s] at this
  exact this
def zbk (W : Nat → Nat) : Option Nat → Nat
  | none => 0
  | some u => zid (32 ≤ W u)
def zRL (n : Nat) (le q : Nat → Int32) : Prop := (∀ u, u < n → q (181 + u) = le u) ∧ (∀ u, n ≤ u → u < 60 → le u = 0)
def zRP (n : Nat) (S W : Nat → Nat) (H : Nat → Option Nat) (T C P O : Nat → Nat) (h : Nat) (pu sh ho pa q : Nat → Int32) : Prop :=
  (∀ k, k < 12 → ∀ u, H k = some u ↔ (u < n ∧ S u = 8 + k)) ∧ (∀ k, k < 12 → q (261 + k) = zev (-1) (H k)) ∧
  (∀ k, k < 12 → sh k = nI (T k) ∧ q (273 + k) = nI (T k) ∧ T k ≤ h ∧ (H k = none → T k = 0)) ∧
  (∀ k, k < 12 → q (285 + k) = nI (zbk W (H k))) ∧
  (∀ k, k < 12 → pu k = nI (C k) ∧ q (249 + k) = nI (C k) ∧ pa k = nI (P k) ∧ q (309 + k) = nI (P k) ∧ C k + P k + (if H k = none then 0 else 10) = 40) ∧
  (∀ k, k < 12 → ho k = nI (O k) ∧ q (297 + k) = nI (O k) ∧ O k < 8)
def zRG (P : Nat → Nat) (h r : Nat) (rooms : Nat → Int32) (hours house spent loans surges rate : Int32) (q : Nat → Int32) : Prop :=
  (∀ s, s < 8 → q (241 + s) = rooms s) ∧ hours = nI h ∧ q 322 = nI h ∧ q 321 = house ∧ q 323 = spent ∧ q 324 = nI (zsm P 12) ∧ q 325 = loans ∧ q 326 = surges ∧ rate = nI r ∧ q 327 = nI r ∧ r ≤ 5 ∧ h ≤ 600
def zCT (n : Nat) (S W : Nat → Nat) (H : Nat → Option Nat) (T C P O : Nat → Nat) (h r : Nat) (sp we le ta : Nat → Int32) (num : Int32) (rooms pu sh ho pa : Nat → Int32) (hours house spent loans surges rate : Int32) (q : Nat → Int32) : Prop :=
  zRC n S W sp we ta num ∧ zRM n S W q ∧ zRL n le q ∧ zRP n S W H T C P O h pu sh ho pa q ∧ zRG P h r rooms hours house spent loans surges rate q
def zRT (c : CV) (q : Nat → Int32) : Prop := ∃ n S W H T C P O h r, h ≤ 500 ∧ zCT n S W H T C P O h r c.1 c.2.1 c.2.2.1 c.2.2.2.1 c.2.2.2.2.1 c.2.2.2.2.2.1 c.2.2.2.2.2.2.1 c.2.2.2.2.2.2.2.1 c.2.2.2.2.2.2.2.2.1 c.2.2.2.2.2.2.2.2.2.1 c.2.2.2.2.2.2.2.2.2.2.1 c.2.2.2.2.2.2.2.2.2.2.2.1 c.2.2.2.2.2.2.2.2.2.2.2.2.1 c.2.2.2.2.2.2.2.2.2.2.2.2.2.1 c.2.2.2.2.2.2.2.2.2.2.2.2.2.2.1 c.2.2.2.2.2.2.2.2.2.2.2.2.2.2.2 q
section fr
variable {n : Nat} {S W : Nat → Nat} {H : Nat → Option Nat} {T C P O : Nat → Nat} {h r : Nat} {sp we le ta : Nat → Int32} {num : Int32} {rooms pu sh ho pa : Nat → Int32} {hours house spent loans surges rate : Int32} {q q' : Nat → Int32}
theorem zRM.fr (a : zRM n S W q) (e : ∀ i, i < 181 → q' i = q i) : zRM n S W q' := by
  obtain ⟨h0, h1, h2, h3, h4, h5, h6⟩ := a
  refine ⟨h0, ?_, h2, h3, fun u hu => ?_, fun u hu hs => ?_, fun u hu => ?_⟩
  · rw [e 0 (by omega)]; exact h1
  · rw [e _ (by omega)]; exact h4 u hu
  · rw [e _ (by omega)]; exact h5 u hu hs
  · rw [e _ (by omega)]; exact h6 u hu
theorem zRL.fr (hn : n ≤ 60) (a : zRL n le q) (e : ∀ i, 181 ≤ i → i < 241 → q' i = q i) : zRL n le q' := by
  refine ⟨fun u hu => ?_, a.2⟩
  rw [e _ (by omega) (by omega)]; exact a.1 u hu
theorem zRP.fr (a : zRP n S W H T C P O h pu sh ho pa q) (e : ∀ i, 249 ≤ i → i < 321 → q' i = q i) : zRP n S W H T C P O h pu sh ho pa q' := by
  obtain ⟨h0, h1, h2, h3, h4, h5⟩ := a
  refine ⟨h0, fun k hk => ?_, fun k hk => ?_, fun k hk => ?_, fun k hk => ?_, fun k hk => ?_⟩
  · rw [e _ (by omega) (by omega)]; exact h1 k hk
  · rw [e _ (by omega) (by omega)]; exact h2 k hk
  · rw [e _ (by omega) (by omega)]; exact h3 k hk
  · rw [e _ (by omega) (by omega), e _ (by omega) (by omega)]; exact h4 k hk
  · rw [e _ (by omega) (by omega)]; exact h5 k hk
theorem zRG.fr (a : zRG P h r rooms hours house spent loans surges rate q) (e : ∀ i, (241 ≤ i ∧ i < 249) ∨ (321 ≤ i ∧ i < 328) → q' i = q i) : zRG P h r rooms hours house spent loans surges rate q' := by
  unfold zRG at *
  rw [e 321 (by omega), e 322 (by omega), e 323 (by omega), e 324 (by omega), e 325 (by omega), e 326 (by omega), e 327 (by omega)]
  refine ⟨fun s hs => ?_, a.2⟩
  rw [e _ (by omega)]; exact a.1 s hs
theorem zCT.fr (a : zCT n S W H T C P O h r sp we le ta num rooms pu sh ho pa hours house spent loans surges rate q) (e : ∀ i, i < 328 → q' i = q i) : zCT n S W H T C P O h r sp we le ta num rooms pu sh ho pa hours house spent loans surges rate q' :=
  ⟨a.1, a.2.1.fr (fun i hi => e i (by omega)), a.2.2.1.fr a.1.1 (fun i _ hi => e i (by omega)), a.2.2.2.1.fr (fun i _ hi => e i (by omega)), a.2.2.2.2.fr (fun i hi => e i (by omega))⟩
theorem zRP.mv {u t : Nat} (a : zRP n S W H T C P O h pu sh ho pa q) (h1 : ¬ (8 ≤ S u ∧ S u < 20)) (h2 : ¬ (8 ≤ t ∧ t < 20)) : zRP n (zup S u t) W H T C P O h pu sh ho pa q := by
  refine ⟨fun k hk v => ?_, a.2⟩
  rw [a.1 k hk v]
  by_cases hv : v = u
  · subst hv
    rw [zup_s rfl]
    constructor
    · rintro ⟨x, y⟩; omega
    · rintro ⟨x, y⟩; omega
  · rw [zup_n hv]
theorem zMv (a : zRC n S W sp we ta num) {u t : Nat} (hu : u < n) (ht : t < 24) : zRC n (zup S u t) W (f_X5_move sp ta (nI u) (nI t)).1 we (f_X5_move sp ta (nI u) (nI t)).2 num := by
  obtain ⟨h0, rfl, h2, h3, h4, h5, h6, h7⟩ := a
  have hS := h2 u hu
  unfold f_X5_move
  rw [zput (by omega) (by omega), zat (by omega) (by omega), h5 u hu, zaddc (u := S u) (by omega) (by omega), zaddc (u := t) (by omega) (by omega)]
  refine ⟨h0, rfl, fun v hv => ?_, h3, h4, fun v hv => ?_, h6, fun s hs => ?_⟩
  · by_cases hc : v = u
    · rw [zup_s hc]; omega
    · rw [zup_n hc]; exact h2 v hv
  · show upd sp u (nI t) v = _
    by_cases hc : v = u
    · rw [zup_s hc, zus hc]
    · rw [zup_n hc, zun hc]; exact h5 v hv
  · show upd (upd ta (S u) (ta (S u) + -1)) t (upd ta (S u) (ta (S u) + -1) t + 1) s = _
    have hz := zc_up (S := S) (u := u) (t := t) (s := s) hu
    have hz1 := zc_le S s n
    have hm : ∀ x : Nat, 0 < x → nI x + -1 = nI (x - 1) := fun x hx => by
      obtain ⟨y, rfl⟩ : ∃ y, x = y + 1 := ⟨x - 1, by omega⟩
      rw [Nat.add_sub_cancel, nI_succ, Int32.add_assoc]; simp
    by_cases ha : t = s
    · subst ha
      rw [zus rfl]
      by_cases hb : S u = t
      · rw [zus hb.symm, hb, h7 t hs]
        simp only [zid, hb, if_true] at hz
        have hp : 0 < zc S t n := zsm_pos.2 ⟨u, hu, by simp [zid, hb]⟩
        rw [hm _ hp, nI_1]; congr 1; omega
      · rw [zun (fun h => hb h.symm), h7 t hs, nI_1]
        simp only [zid, hb, if_true, if_false] at hz
        congr 1; omega
    · rw [zun (fun h => ha h.symm)]
      by_cases hb : S u = s
      · subst hb
        rw [zus rfl, h7 _ hs]
        have hp : 0 < zc S (S u) n := zsm_pos.2 ⟨u, hu, by simp [zid]⟩
        simp only [zid, if_true, if_neg ha] at hz
        rw [hm _ hp]; congr 1; omega
      · rw [zun (fun h => hb h.symm), h7 _ hs]
        simp only [zid, if_neg hb, if_neg ha] at hz
        congr 1; omega
theorem zGo {u : Nat} {x y : Int32} (hu : u < 60) : f_X7_goes q (nI u) x y = some (upd (upd q (1 + u) x) (61 + u) y) := by
  unfold f_X7_goes
  simp (disch := omega) only [zpl1, zpl2, zpl3, zob1, zob2, zob3, zlt, zeq, znn, zn9, zat, zput, zaddc, zag, zas, zl2, zl3, zl4, zl5, zl7, zl8, zl10, zl11, zl12, zl16, zl20, zl22, zl23, zl31, zl32, zl60, zl64, zl80, zl100, zl121, zl181, zl241, zl249, zl261, zl273, zl285, zl297, zl309, zl321, zl322, zl323, zl324, zl325, zl326, zl327, zl500, zl61, zl328, zl329, zl657, zl986, nI_1, z1I, zadd, if_true, if_false]
theorem zMm (a : zRM n S W q) {u t : Nat} {x y : Int32} (hu : u < n) (ht : t < 24) (hx : x = nI (zpl t)) (hy : t < 22 → y = nI (zwh t)) : zRM n (zup S u t) W (upd (upd q (1 + u) x) (61 + u) y) := by
  obtain ⟨h0, h1, h2, h3, h4, h5, h6⟩ := a
  refine ⟨h0, ?_, fun v hv => ?_, h3, fun v hv => ?_, fun v hv hs => ?_, fun v hv => ?_⟩
  · rw [zun (by omega), zun (by omega)]; exact h1
  · by_cases hc : v = u
    · rw [zup_s hc]; omega
    · rw [zup_n hc]; exact h2 v hv
  · rw [zun (by omega)]
    by_cases hc : v = u
    · rw [zup_s hc, zus (by omega), hx]
    · rw [zup_n hc, zun (by omega)]; exact h4 v hv
  · by_cases hc : v = u
    · rw [zup_s hc] at hs ⊢
      rw [zus (by omega), hy hs]
    · rw [zup_n hc] at hs ⊢
      rw [zun (by omega), zun (by omega)]; exact h5 v hv hs
  · rw [zun (by omega), zun (by omega)]; exact h6 v hv
/-- who has none -/
theorem zNo (hn : n ≤ 60) (a : zRP n S W H T C P O h pu sh ho pa q) {k : Nat} (hk : k < 12) : H k = none ↔ zc S (8 + k) n = 0 := by
  constructor
  · intro e
    refine zsm_none (fun u hu => ?_)
    have := (a.1 k hk u).2
    unfold zid
    rw [if_neg]
    intro hs
    have := this ⟨hu, hs⟩
    rw [e] at this; cases this
  · intro e
    cases hH : H k with
    | none => rfl
    | some u =>
      have := (a.1 k hk u).1 hH
      have hp : 0 < zc S (8 + k) n := zsm_pos.2 ⟨u, this.1, by simp [zid, this.2]⟩
      omega
end fr
