section lh
variable {v : OV} {n : Nat} {S W : Nat → Nat} {H : Nat → Option Nat} {T C P O R Y : Nat → Nat} {h r hs sn : Nat} {Z : Nat}
theorem oE (hZ : 5000 < Z) (ok : OK v) (a : yC n S W H T C P O R Y h r hs sn v.1) : m_emptied Z v = some (zes (fun s => ¬ zwant H C O s 12 < zw S W s n) 8) := by
  have hn := a.1.1
  have hwl : ∀ s, zwant H C O s 12 ≤ 12 := fun s => zsm_id 12
  have hzl : ∀ s, zw S W s n ≤ n := fun s => zsm_id n
  unfold m_emptied f_X6_emptied
  rw [gO_in ok]
  have h1 := zloop0 (fun F (x : Int32) i => f_X6_emptied_L4 Z v.1 F x i) (zes (fun s => ¬ zwant H C O s 12 < zw S W s n)) 8 (zes (fun s => ¬ zwant H C O s 12 < zw S W s n) 8) (F := Z) (by omega) (fun F => by
    show f_X6_emptied_L4 Z v.1 (F + 1) _ _ = _
    rw [f_X6_emptied_L4, if_neg (by decide)]) (fun F i hi => by
    show f_X6_emptied_L4 Z v.1 (F + 1) _ _ = f_X6_emptied_L4 Z v.1 F _ _
    have hl := zLack a.1 a.2.1 (Z := Z) (s := i) (by omega) hi
    rw [zwb] at hl
    have hng := zlneg (a := zwant H C O i 12) (b := zw S W i n) (by have := hwl i; omega) (by have := hzl i; omega)
    rw [f_X6_emptied_L4, if_pos (show nI i < 8 from nI_lt (b := 8) hi (by decide)), hl, zob1, nI_1]
    simp only [hng]
    rw [show zes (fun s => ¬ zwant H C O s 12 < zw S W s n) (i + 1) = if ¬ zwant H C O i 12 < zw S W i n then zes (fun s => ¬ zwant H C O s 12 < zw S W s n) i ||| (1 <<< (nI i &&& 31)) else zes (fun s => ¬ zwant H C O s 12 < zw S W s n) i from rfl]
    by_cases hc : zwant H C O i 12 < zw S W i n
    · simp only [hc, if_true, not_true, if_false, zpl1]
    · simp only [hc, if_false, not_false_iff, if_true, zpl1])
  have h1' : f_X6_emptied_L4 Z v.1 Z 0 0 = some (zes (fun s => ¬ zwant H C O s 12 < zw S W s n) 8) := h1
  rw [h1', zob1]
theorem zes_cg {p q : Nat → Prop} [∀ i, Decidable (p i)] [∀ i, Decidable (q i)] {m : Nat} (h : ∀ i, i < m → (p i ↔ q i)) : zes p m = zes q m := by
  induction m with
  | zero => rfl
  | succ m ih =>
    unfold zes
    rw [ih (fun i hi => h i (by omega))]
    have := h m (by omega)
    by_cases c : q m
    · rw [if_pos c, if_pos (this.2 c)]
    · rw [if_neg c, if_neg (fun x => c (this.1 x))]
theorem zhb_sh {rn gs : Nat} : ∀ k w p, zhb rn gs k w (p + 1) = (zhb rn gs k w p).map (· + 1) := by
  intro k
  induction k with
  | zero => intro w p; unfold zhb; split <;> rfl
  | succ k ih =>
    intro w p
    unfold zhb
    split
    · rfl
    · exact ih _ _
theorem zhb_up {rn gs : Nat} : ∀ k w p q, zhb rn gs k w p = some q → zhb rn gs (k + 1) w p = some q := by
  intro k
  induction k with
  | zero =>
    intro w p q e
    unfold zhb at e ⊢
    by_cases c : 32 ≤ w
    · rw [if_pos c] at e ⊢; exact e
    · rw [if_neg c] at e; cases e
  | succ k ih =>
    intro w p q e
    unfold zhb at e ⊢
    by_cases c : 32 ≤ w
    · rw [if_pos c] at e ⊢; exact e
    · rw [if_neg c] at e ⊢; exact ih _ _ _ e
/-- one hour later -/
theorem zhb_next {rn gs w q : Nat} (e : zhb rn gs 100 w 0 = some q) : (q < 2 ↔ 32 ≤ zwo w rn gs ∨ 32 ≤ w) ∧ (2 ≤ q → zhb rn gs 100 (zwo w rn gs) 0 = some (q - 1)) := by
  by_cases c : 32 ≤ w
  · have := (zhb_ge _ _ _ _ e).2.2.2 c
    exact ⟨⟨fun _ => Or.inr c, fun _ => by omega⟩, fun x => by omega⟩
  · have e2 : zhb rn gs 99 (zwo w rn gs) (0 + 1) = some q := by
      have : zhb rn gs 100 w 0 = if 32 ≤ w then some 0 else zhb rn gs 99 (zwo w rn gs) (0 + 1) := rfl
      rw [this, if_neg c] at e; exact e
    rw [zhb_sh] at e2
    cases e3 : zhb rn gs 99 (zwo w rn gs) 0 with
    | none => rw [e3] at e2; cases e2
    | some p =>
      rw [e3] at e2
      have hq : q = p + 1 := by cases e2; rfl
      have hp := zhb_ge _ _ _ _ e3
      refine ⟨⟨fun x => ?_, fun x => ?_⟩, fun x => ?_⟩
      · rcases Nat.lt_or_ge (zwo w rn gs) 32 with d | d
        · have := hp.2.1 d; omega
        · exact Or.inl d
      · rcases x with d | d
        · have := hp.2.2.2 d; omega
        · omega
      · rw [zhb_up _ _ _ _ e3, hq]; rfl
theorem zhb_1 {rn gs w : Nat} : zhb rn gs 100 w 0 = some 1 ↔ w < 32 ∧ 32 ≤ zwo w rn gs := by
  by_cases c : 32 ≤ w
  · rw [zhb_0 c]
    refine ⟨fun e => ?_, fun e => by omega⟩
    cases e
  · have : zhb rn gs 100 w 0 = if 32 ≤ w then some 0 else zhb rn gs 99 (zwo w rn gs) (0 + 1) := rfl
    rw [this, if_neg c]
    constructor
    · intro e
      refine ⟨by omega, ?_⟩
      rcases Nat.lt_or_ge (zwo w rn gs) 32 with d | d
      · have := (zhb_ge _ _ _ _ e).2.1 d; omega
      · exact d
    · intro e; exact zhb_0 e.2
theorem ybrk1 {rn gs : Nat} (o : Option Nat) : (ybrk W rn gs o = 1) = (zbrH W rn gs o = 1) := by
  cases o with
  | none =>
    show ((-2 : Int32) = 1) = ((0 : Nat) = 1)
    exact propext ⟨fun e => absurd e (by decide), fun e => absurd e (by decide)⟩
  | some u =>
    have hz : zbrH W rn gs (some u) = zid (W u < 32 ∧ 32 ≤ zwo (W u) rn gs) := rfl
    have hy : ybrk W rn gs (some u) = zev (-9) (zhb rn gs 100 (W u) 0) := rfl
    rw [hz, hy]
    have h1 := zhb_1 (rn := rn) (gs := gs) (w := W u)
    by_cases c : W u < 32 ∧ 32 ≤ zwo (W u) rn gs
    · rw [zid_1 c, h1.2 c]; exact propext ⟨fun _ => rfl, fun _ => rfl⟩
    · rw [zid_0 c]
      refine propext ⟨fun e => ?_, fun e => by omega⟩
      cases hq : zhb rn gs 100 (W u) 0 with
      | none => rw [hq] at e; exact absurd e (by decide)
      | some q =>
        rw [hq] at e
        have hl := (zhb_ge _ _ _ _ hq).2.2.1
        have e' : nI q = nI 1 := e
        have := (nI_eq (by omega) (by omega)).1 e'
        subst this
        exact absurd (h1.1 hq) c
theorem yH32 (hZ : 5000 < Z) (ok : OK v) (a : yC n S W H T C P O R Y h r hs sn v.1) {rn gs : Nat} (hr : rn ≤ 9) (hg : gs ≤ 3) : f_L_hour_L32 Z v (nI rn) (nI gs) Z 0 0 (fun _ => 0) = some (nI (zsm (fun k => zbrH W rn gs (H k)) 12), fun k => if k < 12 then ybrk W rn gs (H k) else 0) := by
  have h1 := zloop0 (fun F (x : Int32 × (Nat → Int32)) i => f_L_hour_L32 Z v (nI rn) (nI gs) F x.1 i x.2) (fun i => (nI (zsm (fun k => zbrH W rn gs (H k)) i), fun k => if k < i then ybrk W rn gs (H k) else 0)) 12 (nI (zsm (fun k => zbrH W rn gs (H k)) 12), fun k => if k < 12 then ybrk W rn gs (H k) else 0) (F := Z) (by omega) (fun F => by
    show f_L_hour_L32 Z v (nI rn) (nI gs) (F + 1) _ _ _ = _
    rw [f_L_hour_L32, if_neg (by decide)]) (fun F i hi => by
    show f_L_hour_L32 Z v (nI rn) (nI gs) (F + 1) _ _ _ = f_L_hour_L32 Z v (nI rn) (nI gs) F _ _ _
    have eu : upd (fun k => if k < i then ybrk W rn gs (H k) else 0) i (ybrk W rn gs (H i)) = fun k => if k < i + 1 then ybrk W rn gs (H k) else 0 := by
      funext k
      by_cases d : k = i
      · subst d; rw [zus rfl, if_pos (by omega)]
      · rw [zun d]
        have : (k < i + 1) = (k < i) := propext (by omega)
        simp only [this]
    have eg : upd (fun k => if k < i then ybrk W rn gs (H k) else 0) i (ybrk W rn gs (H i)) i = ybrk W rn gs (H i) := zus rfl
    rw [f_L_hour_L32, if_pos (show nI i < 12 from nI_lt (b := 12) hi (by decide)), oB hZ ok a hi hr hg, zob1, zas hi (by omega), zob1, zag hi (by omega), zob1, eg, eu, nI_1]
    have hy := ybrk1 (W := W) (rn := rn) (gs := gs) (H i)
    simp only [hy]
    have hz : zsm (fun k => zbrH W rn gs (H k)) (i + 1) = zsm (fun k => zbrH W rn gs (H k)) i + zbrH W rn gs (H i) := rfl
    have hb : zbrH W rn gs (H i) ≤ 1 := by
      cases H i with
      | none => exact Nat.zero_le _
      | some u => exact zid_le _
    rw [hz]
    by_cases c : zbrH W rn gs (H i) = 1
    · rw [if_pos c, zpl1, c, nI_1]
    · have c0 : zbrH W rn gs (H i) = 0 := by omega
      rw [if_neg c, zpl1, c0, Int32.add_zero]; rfl)
  have e0 : (fun k => if k < 0 then ybrk W rn gs (H k) else 0) = fun (_ : Nat) => (0 : Int32) := by
    funext k; rw [if_neg (by omega)]
  have h2 : f_L_hour_L32 Z v (nI rn) (nI gs) Z 0 0 (fun k => if k < 0 then ybrk W rn gs (H k) else 0) = _ := h1
  rw [e0] at h2
  exact h2
def ywA (n : Nat) (S W : Nat → Nat) : Nat → Int32 := fun u => if u < n then (if zhd (S u) then -1 else nI (W u)) else 0
theorem yH86 (hZ : 5000 < Z) (ok : OK v) (a : yC n S W H T C P O R Y h r hs sn v.1) : f_L_hour_L86 Z v Z 0 (fun _ => 0) = some (ywA n S W) := by
  have hn := a.1.1
  have h1 := zloop0 (fun F (x : Nat → Int32) i => f_L_hour_L86 Z v F i x) (fun i => ywA i S W) n (ywA n S W) (F := Z) (by omega) (fun F => by
    show f_L_hour_L86 Z v (F + 1) _ _ = _
    rw [f_L_hour_L86, oC1 ok a, zob1, if_neg (fun q => absurd q (by rw [zlt (by omega) (by omega)]; omega))]) (fun F i hi => by
    show f_L_hour_L86 Z v (F + 1) _ _ = f_L_hour_L86 Z v F _ _
    have hS := a.1.2.2.1 i hi
    have hki : (nI (zpl (S i)) = 1) = zhd (S i) := by
      have := zpl_le (S i)
      rw [show (1 : Int32) = nI 1 from rfl, zeq (by omega) (by omega)]
      apply propext; unfold zpl zhd; constructor
      · intro hh; split at hh <;> (try split at hh) <;> (try split at hh) <;> (try split at hh) <;> omega
      · intro hh; rw [if_neg (by omega), if_pos (by omega)]
    have eu : ∀ x, x = (if zhd (S i) then (-1 : Int32) else nI (W i)) → upd (ywA i S W) i x = ywA (i + 1) S W := fun x hx => by
      funext k
      unfold ywA
      by_cases d : k = i
      · subst d; rw [zus rfl, if_pos (by omega)]; exact hx
      · rw [zun d]
        have : (k < i + 1) = (k < i) := propext (by omega)
        simp only [this]
    rw [f_L_hour_L86, oC1 ok a, zob1, if_pos (nI_lt hi (by omega)), oU0 ok a hi, zob1, nI_1]
    simp only [hki, oU2 ok a hi, zob1]
    by_cases c : zhd (S i)
    · rw [if_pos c, zob1, zas (by omega) (by omega), zob1, eu _ (by rw [if_pos c])]
    · rw [if_neg c, zob1, zas (by omega) (by omega), zob1, eu _ (by rw [if_neg c])])
  have e0 : ywA 0 S W = fun (_ : Nat) => (0 : Int32) := by
    funext k; unfold ywA; rw [if_neg (by omega)]
  have h2 : f_L_hour_L86 Z v Z 0 (ywA 0 S W) = _ := h1
  rw [e0] at h2
  exact h2
theorem yH186 (hZ : 5000 < Z) (ok : OK v) (a : yC n S W H T C P O R Y h r hs sn v.1) : f_L_hour_L186 Z v Z 0 0 = some (zes (fun s => zw S W s n = 0) 8) := by
  have hn := a.1.1
  exact zloop0 (fun F (x : Int32) i => f_L_hour_L186 Z v F x i) (zes (fun s => zw S W s n = 0)) 8 _ (F := Z) (by omega) (fun F => by
    show f_L_hour_L186 Z v (F + 1) _ _ = _
    rw [f_L_hour_L186, if_neg (by decide)]) (fun F i hi => by
    show f_L_hour_L186 Z v (F + 1) _ _ = f_L_hour_L186 Z v F _ _
    rw [f_L_hour_L186, if_pos (show nI i < 8 from nI_lt (b := 8) hi (by decide)), oS3 hZ ok a hi, zob1, nI_1]
    rw [show zes (fun s => zw S W s n = 0) (i + 1) = if zw S W i n = 0 then zes (fun s => zw S W s n = 0) i ||| (1 <<< (nI i &&& 31)) else zes (fun s => zw S W s n = 0) i from rfl]
    cases hb : zbest S W i n with
    | none =>
      have := zw_none.1 hb
      have e9 : (zev (-9) none = (-9 : Int32)) = True := eq_true rfl
      simp only [e9, this, if_true, zpl1]
    | some u =>
      have hne : ¬ zw S W i n = 0 := fun e => by rw [zw_none.2 e] at hb; cases hb
      have hu := (zam_ok hb).1
      have e9 : (zev (-9) (some u) = (-9 : Int32)) = False := by show (nI u = -9) = False; exact zn9 (by omega)
      simp only [e9, hne, if_false, zpl1]
      rw [Int32.or_zero])
end lh
