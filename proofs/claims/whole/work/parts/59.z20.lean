theorem zlneg {a b : Nat} (ha : a < 1000) (hb : b < 1000) : (nI a - nI b < 0) = (a < b) := by
  rw [Int32.lt_iff_toInt_lt, Int32.toInt_sub, nI_toInt (by omega), nI_toInt (by omega), Int.bmod_eq_of_le (by omega) (by omega)]
  show ((a : Int) - (b : Int) < 0) = _
  apply propext; omega
def zes (p : Nat → Prop) [∀ i, Decidable (p i)] : Nat → Int32
  | 0 => 0
  | i + 1 => if p i then zes p i ||| (1 <<< (nI i &&& 31)) else zes p i
theorem zAsd {Z : Nat} (hZ : 5000 < Z) (p asd : Nat → Int32) : f_X7_emptied_L2 p Z 0 asd = some (fun j => if j < 328 then p j else asd j) := by
  have h1 := zloop0 (fun F (x : Nat → Int32) i => f_X7_emptied_L2 p F i x) (fun i => fun j => if j < i then p j else asd j) 328 (fun j => if j < 328 then p j else asd j) (F := Z) (by omega) (fun F => by
    show f_X7_emptied_L2 p (F + 1) _ _ = _
    rw [f_X7_emptied_L2, if_neg (by decide)]) (fun F i hi => by
    show f_X7_emptied_L2 p (F + 1) _ _ = f_X7_emptied_L2 p F _ _
    rw [f_X7_emptied_L2, if_pos (show nI i < 328 from nI_lt (b := 328) hi (by decide)), zag (by omega) (by omega), zob1, zas (by omega) (by omega), zob1, nI_1]
    congr 1
    funext j
    by_cases e : j = i
    · subst e
      rw [zus rfl, if_pos (by omega)]
    · rw [zun e]
      have : (j < i + 1) = (j < i) := propext (by omega)
      simp only [this])
  have : (fun j => if j < 0 then p j else asd j) = asd := by funext j; simp
  rw [← h1]; show _ = f_X7_emptied_L2 p Z 0 _; rw [this]
theorem zBack {Z : Nat} (hZ : 5000 < Z) (w m : Nat → Int32) : f_X7_emptied_L70 w Z 0 m = some (fun j => if j < 328 then w j else m j) := by
  have h1 := zloop0 (fun F (x : Nat → Int32) i => f_X7_emptied_L70 w F i x) (fun i => fun j => if j < i then w j else m j) 328 (fun j => if j < 328 then w j else m j) (F := Z) (by omega) (fun F => by
    show f_X7_emptied_L70 w (F + 1) _ _ = _
    rw [f_X7_emptied_L70, if_neg (by decide)]) (fun F i hi => by
    show f_X7_emptied_L70 w (F + 1) _ _ = f_X7_emptied_L70 w F _ _
    rw [f_X7_emptied_L70, if_pos (show nI i < 328 from nI_lt (b := 328) hi (by decide)), zag (by omega) (by omega), zob1, zas (by omega) (by omega), zob1, nI_1]
    congr 1
    funext j
    by_cases e : j = i
    · subst e
      rw [zus rfl, if_pos (by omega)]
    · rw [zun e]
      have : (j < i + 1) = (j < i) := propext (by omega)
      simp only [this])
  have : (fun j => if j < 0 then w j else m j) = m := by funext j; simp
  rw [← h1]; show _ = f_X7_emptied_L70 w Z 0 _; rw [this]
theorem zz_emptied {Z : Nat} {c : CV} {q : Nat → Int32} (hZ : 5000 < Z) (a : zRT c q) (asd : Nat → Int32) : ∃ r q' asd', f_X6_emptied Z c = some r ∧ f_X7_emptied Z q asd = some (r, q', asd') ∧ ∀ j, q' j = q j := by
  obtain ⟨n, S, W, H, T, C, P, O, h, r, hh, a⟩ := a
  obtain ⟨b, sp', we', le', ta', pu', sh', house', loans', surges', q', b1, b2, b3, ⟨S', W', H', T', C', b4, b5⟩, b6⟩ := zPass a hh (Z := Z) (rn := 5) (gs := 0) (by omega) (by omega) (by omega)
  have hcnt := b5 (by omega)
  have aM' := b4.2.1
  have b2' : f_X7_passes Z q 5 0 = some (b, q') := b2
  have hn := a.1.1
  unfold f_X6_emptied f_X7_emptied
  let pr : Nat → Prop := fun s => ¬ zwant H C O s 12 < zw S W s n
  have hwl : ∀ s, zwant H C O s 12 ≤ 12 := fun s => zsm_id 12
  have hzl : ∀ s, zw S W s n ≤ n := fun s => zsm_id n
  have h1 := zloop0 (fun F (x : Int32) i => f_X6_emptied_L4 Z c F x i) (zes pr) 8 (zes pr 8) (F := Z) (by omega) (fun F => by
    show f_X6_emptied_L4 Z c (F + 1) _ _ = _
    rw [f_X6_emptied_L4, if_neg (by decide)]) (fun F i hi => by
    show f_X6_emptied_L4 Z c (F + 1) _ _ = f_X6_emptied_L4 Z c F _ _
    have hl := zLack a.1 a.2.2.2.1 (Z := Z) (s := i) (by omega) hi
    rw [zwb] at hl
    have hng := zlneg (a := zwant H C O i 12) (b := zw S W i n) (by have := hwl i; omega) (by have := hzl i; omega)
    rw [f_X6_emptied_L4, if_pos (show nI i < 8 from nI_lt (b := 8) hi (by decide)), hl, zob1, nI_1]
    simp only [hng]
    rw [show zes pr (i + 1) = if ¬ zwant H C O i 12 < zw S W i n then zes pr i ||| (1 <<< (nI i &&& 31)) else zes pr i from rfl]
    by_cases hc : zwant H C O i 12 < zw S W i n
    · simp only [hc, if_true, not_true, if_false, zpl1]
    · simp only [hc, if_false, not_false_iff, if_true, zpl1])
  have h2 := zloop0 (fun F (x : Int32) i => f_X7_emptied_L38 Z q' F x i) (zes pr) 8 (zes pr 8) (F := Z) (by omega) (fun F => by
    show f_X7_emptied_L38 Z q' (F + 1) _ _ = _
    rw [f_X7_emptied_L38, if_neg (by decide)]) (fun F i hi => by
    show f_X7_emptied_L38 Z q' (F + 1) _ _ = f_X7_emptied_L38 Z q' F _ _
    have hzi := hcnt i hi
    rw [f_X7_emptied_L38, if_pos (show nI i < 8 from nI_lt (b := 8) hi (by decide)), zBestM aM' (by omega) hi, zob1, nI_1]
    rw [show zes pr (i + 1) = if ¬ zwant H C O i 12 < zw S W i n then zes pr i ||| (1 <<< (nI i &&& 31)) else zes pr i from rfl]
    cases hb : zbest S' W' i n with
    | none =>
      have := zw_none.1 hb
      rw [if_pos (show ¬ zwant H C O i 12 < zw S W i n by omega)]
      simp only [zev, show ((-1 : Int32) < 0) = True by simp, if_true, zpl1]
    | some u =>
      have hne : zw S' W' i n ≠ 0 := fun e => by rw [zw_none.2 e] at hb; cases hb
      have hu := (zam_ok hb).1
      rw [if_neg (show ¬ ¬ zwant H C O i 12 < zw S W i n by omega)]
      simp only [zev]
      simp (disch := omega) only [zpl1, zpl2, zpl3, zob1, zob2, zob3, zlt, zeq, znn, zn9, zat, zput, zaddc, zag, zas, zl2, zl3, zl4, zl5, zl7, zl8, zl10, zl11, zl12, zl16, zl20, zl22, zl23, zl31, zl32, zl60, zl64, zl80, zl100, zl121, zl181, zl241, zl249, zl261, zl273, zl285, zl297, zl309, zl321, zl322, zl323, zl324, zl325, zl326, zl327, zl500, zl61, zl328, zl329, zl657, zl986, nI_1, z1I, zadd, if_true, if_false]
      rw [Int32.or_zero])
  have h1' : f_X6_emptied_L4 Z c Z 0 0 = some (zes pr 8) := h1
  have h2' : f_X7_emptied_L38 Z q' Z 0 0 = some (zes pr 8) := h2
  rw [h1', zob1, zAsd hZ, zob1, b2', zob2, h2', zob1, zBack hZ, zob1]
  refine ⟨_, _, _, rfl, rfl, fun j => ?_⟩
  show (if j < 328 then (if j < 328 then q j else asd j) else q' j) = q j
  by_cases e : j < 328
  · rw [if_pos e, if_pos e]
  · rw [if_neg e]; exact b6 j (by omega)
theorem zSum {Z : Nat} (hZ : 5000 < Z) {f : Nat → Int32} {g : Nat → Nat} (h : ∀ k, k < 12 → f k = nI (g k)) : f_X2_sum Z 12 f = some (nI (zsm g 12)) := by
  unfold f_X2_sum
  have h1 := zloop0 (fun F (x : Int32) i => f_X2_sum_L13 12 f F x i) (fun i => nI (zsm g i)) 12 (nI (zsm g 12)) (F := Z) (by omega) (fun F => by
    show f_X2_sum_L13 12 f (F + 1) _ _ = _
    rw [f_X2_sum_L13, if_neg (by decide)]) (fun F i hi => by
    show f_X2_sum_L13 12 f (F + 1) _ _ = f_X2_sum_L13 12 f F _ _
    rw [f_X2_sum_L13, if_pos (nI_lt hi (by decide)), zag hi (by omega), zob1, h i hi, zadd, nI_1]; rfl)
  have h2 : f_X2_sum_L13 12 f Z 0 0 = some _ := h1
  rw [h2]; rfl
theorem zSumM {Z : Nat} (hZ : 5000 < Z) {q : Nat → Int32} {g : Nat → Nat} (h : ∀ k, k < 12 → q (249 + k) = nI (g k)) : f_X7_coinsOfPersons Z q = some (nI (zsm g 12)) := by
  unfold f_X7_coinsOfPersons
  have h1 := zloop0 (fun F (x : Int32) i => f_X7_coinsOfPersons_L4 q F x i) (fun i => nI (zsm g i)) 12 (nI (zsm g 12)) (F := Z) (by omega) (fun F => by
    show f_X7_coinsOfPersons_L4 q (F + 1) _ _ = _
    rw [f_X7_coinsOfPersons_L4, if_neg (by decide)]) (fun F i hi => by
    show f_X7_coinsOfPersons_L4 q (F + 1) _ _ = f_X7_coinsOfPersons_L4 q F _ _
    rw [f_X7_coinsOfPersons_L4, if_pos (show nI i < 12 from nI_lt (b := 12) hi (by decide)), show (249 : Int32) = nI 249 from rfl, zadd, zag (by omega) (by omega), zob1, h i hi, zadd, nI_1]; rfl)
  have h2 : f_X7_coinsOfPersons_L4 q Z 0 0 = some _ := h1
  rw [h2]; rfl
theorem zz_count {Z : Nat} (hZ : 5000 < Z) {c s0 s1 : CV} {k0 k1 : Int32} {q : Nat → Int32} {g : Nat → SV} {nx : Nat} {sz : Int32} {sv : Nat → Int32} {st len : Int32} (a : zSt c s0 s1 k0 k1 q) (b : zHi g nx sz sv st) (p1 : Int32) : zAg (f_X6_count Z c k0 k1 sz len p1) (f_X7_count Z q st len p1) := by
  obtain ⟨a1, a2, a3, a4, a5, -, -⟩ := a
  obtain ⟨z, hz, hnx, e1, e2, -, -⟩ := b
  obtain ⟨n, S, W, H, T, C, P, O, h, r, hh, aC, aM, aL, aP, aG⟩ := a1
  obtain ⟨g0, g1, g2, g3, g4, g5, g6, g7, g8, g9, g10, g11⟩ := aG
  have kd : ∀ k : Nat, k ≤ 4 → ∀ x : Int32, nI k = x → f_X5_numberOfKind Z c.2.2.2.1 x = some (nI (zk S k n)) := fun k hk x e => by rw [← e]; exact zKind aC (by omega) hk
  have km : ∀ k : Nat, k ≤ 4 → ∀ x : Int32, nI k = x → f_X7_manyIn Z q x = some (nI (zk S k n)) := fun k hk x e => by rw [← e]; exact zIn aM (by omega) hk
  have ag : ∀ (k : Nat) (x : Int32), k < 986 → nI k = x → aget 986 q x = some (q k) := fun k x hk e => by rw [← e]; exact zag hk (by omega)
  unfold f_X6_count f_X7_count
  refine zAg.ite (fun _ => ?_) (fun _ => zAg.ite (fun _ => ?_) (fun _ => zAg.ite (fun e => ?_) (fun _ => zAg.ite (fun e => ?_) (fun _ => zAg.ite (fun e => ?_) (fun _ => zAg.ite (fun e => ?_) (fun _ => zAg.ite (fun e => ?_) (fun _ => zAg.ite (fun _ => ?_) (fun _ => zAg.ite (fun _ => ?_) (fun _ => zAg.ite (fun _ => ?_) (fun _ => zAg.ite (fun e => ?_) (fun _ => zAg.ite (fun e => ?_) (fun _ => zAg.ite (fun e => ?_) (fun _ => zAg.ite (fun e => ?_) (fun _ => zAg.ite (fun e => ?_) (fun _ => zAg.ite (fun _ => ?_) (fun _ => zAg.ite (fun _ => ?_) (fun _ => zAg.ite (fun _ => ?_) (fun _ => zAg.rf))))))))))))))))))
  · rw [ag 322 322 (by omega) rfl, zob1, g2, g1]; exact zAg.rf
  · rw [show aget 986 q 0 = some (q 0) from rfl, zob1, aM.2.1, aC.2.1]; exact zAg.rf
  · rw [e, kd 0 (by omega) 0 rfl, km 0 (by omega) (2 - 2) (by decide)]; exact zAg.rf
  · rw [e, kd 1 (by omega) 1 rfl, km 1 (by omega) (3 - 2) (by decide)]; exact zAg.rf
  · rw [e, kd 2 (by omega) 2 rfl, km 2 (by omega) (4 - 2) (by decide)]; exact zAg.rf
  · rw [e, kd 3 (by omega) 3 rfl, km 3 (by omega) (5 - 2) (by decide)]; exact zAg.rf
  · rw [e, kd 4 (by omega) 4 rfl, km 4 (by omega) (6 - 2) (by decide)]; exact zAg.rf
  · rw [zNumBroken aC (by omega), zBrkOnes aM (by omega)]; exact zAg.rf
  · rw [ag 321 321 (by omega) rfl, zob1, g3]; exact zAg.rf
  · rw [zSum hZ (fun k hk => (aP.2.2.2.2.1 k hk).1), zSumM hZ (fun k hk => (aP.2.2.2.2.1 k hk).2.1)]; exact zAg.rf
  · rw [e, ag 323 (323 + 10 - 10) (by omega) (by decide), zob1, g4]; exact zAg.rf
  · rw [e, ag 324 (323 + 11 - 10) (by omega) (by decide), zob1, g5, zSum hZ (fun k hk => (aP.2.2.2.2.1 k hk).2.2.1)]; exact zAg.rf
  · rw [e, ag 325 (323 + 12 - 10) (by omega) (by decide), zob1, g6]; exact zAg.rf
  · rw [e, ag 326 (323 + 13 - 10) (by omega) (by decide), zob1, g7]; exact zAg.rf
  · rw [e, ag 327 (323 + 14 - 10) (by omega) (by decide), zob1, g9, g8]; exact zAg.rf
  · rw [ag 328 328 (by omega) rfl, zob1, ag 657 657 (by omega) rfl, zob1, a2, a3]
    unfold f_X3_numberKept
    rcases a4 with x | x <;> rcases a5 with y | y <;> rw [x, y] <;> exact zAg.rf
  · rw [e1, e2]; exact zAg.rf
  · exact zAg.rf
