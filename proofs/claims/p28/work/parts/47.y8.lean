abbrev zhd (s : Nat) : Prop := 8 ≤ s ∧ s < 20
section cn
variable {v : OV} {n : Nat} {S W : Nat → Nat} {H : Nat → Option Nat} {T C P O R Y : Nat → Nat} {h r hs sn : Nat} {Z : Nat} {pu sh ho pa : Nat → Int32}
theorem zSumH (aP : yP n S H T C P O h pu sh ho pa) (f : Nat → Nat) : zsm (fun u => if zhd (S u) then f u else 0) n = zsm (fun k => match H k with | none => 0 | some u => f u) 12 := by
  have h1 : zsm (fun u => if zhd (S u) then f u else 0) n = zsm (fun u => zsm (fun k => if S u = 8 + k then f u else 0) 12) n := zsm_congr (fun u hu => by
    by_cases e : zhd (S u)
    · have e1 := e.1; have e2 := e.2
      rw [if_pos e, zsm_one (k := S u - 8) (by omega) (fun i hi hne => by rw [if_neg (by omega)]), if_pos (by omega)]
    · rw [if_neg e, zsm_none (fun i hi => by rw [if_neg (fun x => e ⟨by omega, by omega⟩)])])
  rw [h1, zsm_swap]
  refine zsm_congr (fun k hk => ?_)
  have hb := aP.1 k hk
  cases hH : H k with
  | none =>
    exact zsm_none (fun u hu => by
      rw [if_neg]; intro e
      have := (hb u).2 ⟨hu, e⟩; rw [hH] at this; cases this)
  | some v =>
    have hv := (hb v).1 hH
    rw [zsm_one (k := v) hv.1 (fun u hu hne => by
      rw [if_neg]; intro e
      have := (hb u).2 ⟨hu, e⟩; rw [hH] at this; cases this; exact hne rfl), if_pos hv.2]
theorem yL (aP : yP n S H T C P O h pu sh ho pa) : zk S 1 n = zsm (fun k => if H k = none then 0 else 1) 12 := by
  have h1 := zSumH aP (fun _ => 1)
  have h2 : zk S 1 n = zsm (fun u => if zhd (S u) then 1 else 0) n := zsm_congr (fun u _ => by
    unfold zid
    have : (zpl (S u) = 1) = zhd (S u) := by
      apply propext; unfold zpl zhd; constructor
      · intro hh; split at hh <;> (try split at hh) <;> (try split at hh) <;> (try split at hh) <;> omega
      · intro hh; rw [if_neg (by omega), if_pos (by omega)]
    simp only [this])
  rw [h2, h1]
  refine zsm_congr (fun k _ => ?_)
  cases H k <;> simp
theorem ySum (aP : yP n S H T C P O h pu sh ho pa) : zsm C 12 + zsm P 12 + 10 * zk S 1 n = 480 := by
  rw [yL aP]
  have h1 : ∀ m, m ≤ 12 → zsm C m + zsm P m + 10 * zsm (fun k => if H k = none then 0 else 1) m = 40 * m := by
    intro m
    induction m with
    | zero => intro _; rfl
    | succ m ih =>
      intro hm
      have h2 := ih (by omega)
      have h3 := (aP.2.2.1 m (by omega)).2.2
      simp only [zsm]
      by_cases c : H m = none
      · rw [if_pos c] at h3 ⊢; omega
      · rw [if_neg c] at h3 ⊢; omega
  have := h1 12 (by omega)
  omega
theorem zhb_ge {r g : Nat} : ∀ k w p q, zhb r g k w p = some q → p ≤ q ∧ (w < 32 → p < q) ∧ q ≤ p + k ∧ (32 ≤ w → q = p) := by
  intro k
  induction k with
  | zero =>
    intro w p q e
    unfold zhb at e
    by_cases c : 32 ≤ w
    · rw [if_pos c] at e; cases e; exact ⟨Nat.le_refl _, fun x => by omega, by omega, fun _ => rfl⟩
    · rw [if_neg c] at e; cases e
  | succ k ih =>
    intro w p q e
    unfold zhb at e
    by_cases c : 32 ≤ w
    · rw [if_pos c] at e; cases e; exact ⟨Nat.le_refl _, fun x => by omega, by omega, fun _ => rfl⟩
    · rw [if_neg c] at e
      have := ih _ _ _ e
      exact ⟨by omega, fun _ => by omega, by omega, fun x => by omega⟩
theorem zhb_0 {r g k w p : Nat} (h : 32 ≤ w) : zhb r g k w p = some p := by
  cases k <;> (unfold zhb; rw [if_pos h])
theorem yhb0 {r g k w : Nat} (hk : k ≤ 1000) : (zev (-9) (zhb r g k w 0) = 0) = (32 ≤ w) := by
  by_cases c : 32 ≤ w
  · rw [zhb_0 c]; exact propext ⟨fun _ => c, fun _ => rfl⟩
  · cases e : zhb r g k w 0 with
    | none => exact propext ⟨fun q => absurd q (by decide), fun q => absurd q c⟩
    | some q =>
      have := zhb_ge _ _ _ _ e
      have h2 := this.2.1 (by omega)
      show (nI q = 0) = _
      rw [show (0 : Int32) = nI 0 from rfl, zeq (by omega) (by omega)]
      exact propext ⟨fun x => by omega, fun x => absurd x c⟩
theorem zfee_mono {r t t' w w' : Nat} (h1 : t ≤ t') (h2 : w ≤ w') : zfee r t w ≤ zfee r t' w' := by
  unfold zfee
  have : r * t ≤ r * t' := Nat.mul_le_mul_left r h1
  split <;> split <;> omega
set_option maxHeartbeats 1000000 in
theorem yCo9 (hZ : 5000 < Z) (ok : OK v) (a : yC n S W H T C P O R Y h r hs sn v.1) {i : Nat} (hi : i < 12) (F : Nat) (v1 v2 v3 : Int32) : f_L_coins_L9 Z v (F + 1) v1 v2 v3 (nI i) = f_L_coins_L9 Z v F (v1 + nI (C i)) (v2 + nI (P i)) (v3 + if H i = none then 0 else 1) (nI (i + 1)) := by
  have hn := a.1.1
  have aP := a.2.1
  have hC := (aP.2.2.1 i hi).2.2
  have hT := aP.2.1 i hi
  have hr := a.2.2.2.2.2.2.2.1
  have hh := a.2.2.2.2.2.2.2.2.1
  have f0 : m_feeIn Z v (nI i) 0 0 = some (yfee W r (T i) 0 0 (H i)) := oF hZ ok a hi (m := 0) (rn := 0) (by omega) (by omega)
  have f7 : m_feeIn Z v (nI i) 7 4 = some (yfee W r (T i) 7 4 (H i)) := oF hZ ok a hi (m := 7) (rn := 4) (by omega) (by omega)
  have b0 : m_breaksIn Z v (nI i) 3 1 = some (ybrk W 3 1 (H i)) := oB hZ ok a hi (rn := 3) (gs := 1) (by omega) (by omega)
  have c0 : (nI (C i) < 0) = False := znn (by omega)
  rw [f_L_coins_L9, if_pos (show nI i < 12 from nI_lt (b := 12) hi (by decide)), oP1 hZ ok a hi]
  simp only [oP0 hZ ok a hi, oP5 hZ ok a hi, f0, zob1, c0, if_false]
  rw [nI_1]
  cases hH : H i with
  | none =>
    have e9 : zev (-9) none = -9 := rfl
    have ef : yfee W r (T i) 0 0 none = -2 := rfl
    have t0 := hT.2.2 hH
    have p2 := oP2 hZ ok a hi
    rw [t0] at p2
    have p2' : m_person Z v (nI i) 2 = some 0 := p2
    have p3 := oP3 hZ ok a hi
    rw [hH] at p3
    have p3' : m_person Z v (nI i) 3 = some 0 := p3
    have e22 : ((-2 : Int32) = -2) = True := eq_true rfl
    have e102 : ((10 : Int32) < -2) = False := eq_false (by decide)
    simp only [e9, ef, p2', p3', yq99, e22, e102, yq11, yq00, zpl1, zob1, if_true, if_false]
  | some u =>
    have hu := (aP.1 i hi u).1 hH
    have hW := a.1.2.2.2.1 u
    have eb : zev (-9) (some u) = nI u := rfl
    have e9 : (nI u = (-9 : Int32)) = False := zn9 (by omega)
    have u0 := oU0 ok a hu.1
    have u1 := oU1 ok a hu.1
    have u3 := oU3 ok a hu.1
    rw [hu.2] at u0 u1
    have z0 : zpl (8 + i) = 1 := by unfold zpl; rw [if_neg (by omega), if_pos (by omega)]
    have z1 : zwI (8 + i) = nI i := by unfold zwI zwh; rw [if_pos (by omega), if_neg (by omega), if_pos (by omega)]; congr 1; omega
    rw [z0] at u0
    rw [z1] at u1
    have p3 := oP3 hZ ok a hi
    rw [hH] at p3
    have hf := zfee_le r (T i) (W u)
    have ef : yfee W r (T i) 0 0 (some u) = nI (zfee r (T i) (W u)) := rfl
    have ef7 : yfee W r (T i) 7 4 (some u) = nI (zfee r (T i + 7) (zit (fun x => zwo x 4 0) 7 (W u))) := rfl
    have hf7 := zfee_le r (T i + 7) (zit (fun x => zwo x 4 0) 7 (W u))
    have hge := zfee_mono (r := r) (t := T i) (t' := T i + 7) (w := W u) (w' := zit (fun x => zwo x 4 0) 7 (W u)) (by omega) (zit_ge (f := fun x => zwo x 4 0) hW (fun x => zwo_le x 4 0) (fun x hx => zwo_ge 4 0 hx) 7)
    have ebk : ybrk W 3 1 (some u) = zev (-9) (zhb 3 1 100 (W u) 0) := rfl
    have k1 : (nI (zfee r (T i) (W u)) = (-2 : Int32)) = False := eq_false (fun h => by have := congrArg Int32.toInt h; rw [nI_toInt (by omega)] at this; simp at this)
    have k2 : ((10 : Int32) < nI (zfee r (T i) (W u))) = False := by rw [zl10, zlt (by omega) (by omega)]; exact eq_false (by omega)
    have k3 : (nI (zfee r (T i + 7) (zit (fun x => zwo x 4 0) 7 (W u))) < nI (zfee r (T i) (W u))) = False := by rw [zlt (by omega) (by omega)]; exact eq_false (by omega)
    have k4 := yhb0 (r := 3) (g := 1) (k := 100) (w := W u) (by omega)
    have hrt : T i * r ≤ 100 * 5 := Nat.mul_le_mul (by omega) hr
    have hzb : zbk W (some u) = if W u < 32 then 0 else 1 := by
      show zid (32 ≤ W u) = _
      unfold zid
      by_cases c : W u < 32
      · rw [if_pos c, if_neg (by omega)]
      · rw [if_neg c, if_pos (by omega)]
    rw [hzb] at p3
    have kE : nI (T i) * nI r + 4 * nI (if W u < 32 then 0 else 1) = nI (T i * r + (if W u < 32 then 0 else 4)) := by
      rw [zl4, zmul, zmul, zadd]
      by_cases c : W u < 32
      · rw [if_pos c, if_pos c]
      · rw [if_neg c, if_neg c]
    have h4 : (if W u < 32 then 0 else 4) ≤ 4 := by split <;> omega
    have kL : ((10 : Int32) < nI (T i * r + (if W u < 32 then 0 else 4))) = (10 < T i * r + (if W u < 32 then 0 else 4)) := by rw [zl10, zlt (by omega) (by omega)]
    have kF : zfee r (T i) (W u) = min 10 (T i * r + (if W u < 32 then 0 else 4)) := by unfold zfee; rw [Nat.mul_comm]
    have kx : (if 10 < T i * r + (if W u < 32 then 0 else 4) then some 10 else some (nI (T i * r + (if W u < 32 then 0 else 4)))) = some (nI (zfee r (T i) (W u))) := by
      rw [kF]
      by_cases c : 10 < T i * r + (if W u < 32 then 0 else 4)
      · rw [if_pos c, Nat.min_eq_left (by omega)]; rfl
      · rw [if_neg c, Nat.min_eq_right (by omega)]
    have en : ((some u : Option Nat) = none) = False := eq_false (by simp)
    simp only [eb, e9, ef, ef7, ebk, f7, b0, hH, u0, u1, u3, oP2 hZ ok a hi, p3, oC14 ok a, kE, kL, kx, k1, k2, k3, k4, en, yq1e1, yq00, zpl1, zob1, if_true, if_false]
    by_cases c : W u < 32
    · have c2 : ¬ 32 ≤ W u := by omega
      simp only [c, c2, yq01, yq00, if_true, if_false]
    · have c2 : 32 ≤ W u := by omega
      simp only [c, c2, yq11, if_true, if_false]
theorem yCoins (hZ : 5000 < Z) (ok : OK v) (a : yC n S W H T C P O R Y h r hs sn v.1) : f_L_coins Z v = some 1 := by
  have hn := a.1.1
  have aP := a.2.1
  have hS := ySum aP
  have hk := zk_le S 1 n
  obtain ⟨g0, g1, g2, g3, g4, g5, g6, g7, g8, -⟩ := a.2.2
  unfold f_L_coins
  have h1 := zloop0 (fun F (x : Int32 × Int32 × Int32) i => f_L_coins_L9 Z v F x.1 x.2.1 x.2.2 i) (fun i => (nI (zsm C i), nI (zsm P i), nI (zsm (fun k => if H k = none then 0 else 1) i))) 12 1 (F := Z) (by omega) (fun F => by
    show f_L_coins_L9 Z v (F + 1) _ _ _ _ = _
    rw [f_L_coins_L9, if_neg (by decide), oC9 hZ ok a, zob1, if_pos rfl, oC11 hZ ok a, zob1, if_pos rfl, oC3 hZ ok a, zob1, ← yL aP, if_pos rfl, oC8 ok a, zob1, oC10 ok a, zob1, zadd, zadd, zl580, if_pos (by congr 1; omega), zob1, zl10, zmul, if_neg (by rw [zlt (by omega) (by omega)]; omega)]) (fun F i hi => by
    show f_L_coins_L9 Z v (F + 1) _ _ _ _ = f_L_coins_L9 Z v F _ _ _ _
    rw [yCo9 hZ ok a hi]
    have e1 : nI (zsm C i) + nI (C i) = nI (zsm C (i + 1)) := nI_add _ _
    have e2 : nI (zsm P i) + nI (P i) = nI (zsm P (i + 1)) := nI_add _ _
    have e3 : nI (zsm (fun k => if H k = none then 0 else 1) i) + (if H i = none then 0 else 1) = nI (zsm (fun k => if H k = none then 0 else 1) (i + 1)) := by
      simp only [zsm]
      by_cases c : H i = none
      · rw [if_pos c, if_pos c, Int32.add_zero]; rfl
      · rw [if_neg c, if_neg c, nI_1]
    rw [e1, e2, e3])
  exact h1
end cn
