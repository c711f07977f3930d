theorem zdivN {a b : Nat} (ha : a < 2 ^ 31) (hb : 0 < b) (hb2 : b < 1000) : nI a / nI b = nI (a / b) := by
  have hle : a / b ≤ a := Nat.div_le_self a b
  have hq : a / b < 2 ^ 31 := Nat.lt_of_le_of_lt hle ha
  apply Int32.toInt_inj.1
  rw [Int32.toInt_div, nI_toInt ha, nI_toInt (show b < 2 ^ 31 by omega), nI_toInt hq, ← Int.ofNat_tdiv]
  generalize a / b = q at hq ⊢
  exact Int.bmod_eq_of_le (by omega) (by omega)
theorem yAnd (x : Int32) : ¬ (x &&& 2147483647) < 0 := by
  rw [Int32.lt_iff_toInt_lt]
  have h1 : (x &&& 2147483647).toBitVec.msb = false := by
    rw [Int32.toBitVec_and, BitVec.msb_and]
    have : (2147483647 : Int32).toBitVec.msb = false := by decide
    rw [this, Bool.and_false]
  have h2 : 0 ≤ (x &&& 2147483647).toBitVec.toInt := BitVec.toInt_nonneg_of_msb_false h1
  have h3 : (x &&& 2147483647).toInt = (x &&& 2147483647).toBitVec.toInt := rfl
  have h4 : (0 : Int32).toInt = 0 := by decide
  omega
theorem yLow (x : Int32) {m : Nat} (hm : 0 < m) (hm2 : m < 1000) : ∃ j, j < m ∧ f_L_low x (nI m) = nI j := by
  obtain ⟨q, hq, e⟩ := nI_of (yAnd x)
  refine ⟨q % m, Nat.mod_lt _ hm, ?_⟩
  unfold f_L_low
  rw [e, zdivN hq hm hm2, zmul, zsub (Nat.div_mul_le_self q m)]
  congr 1
  have := Nat.div_add_mod q m
  rw [Nat.mul_comm] at this
  omega
section ac
variable {v : OV} {n : Nat} {S W : Nat → Nat} {H : Nat → Option Nat} {T C P O R Y : Nat → Nat} {h r hs sn b : Nat} {Z : Nat}
theorem yA_work (hZ : 35000 < Z) (hv : yV b v) (a : yC n S W H T C P O R Y h r hs sn v.1) (hb : h ≤ b) (hb30 : b < 30) {s w : Nat} (hs' : s < 8) (hw : w < 2) : ∃ v1 : OV, ((ob1 (m_count Z v 5) (fun (b142 : Int32) => (ob2 (m_toWorkshop Z v (nI w)) (fun (b143 : Int32) (w144 : OV) => (ob1 (m_count Z w144 6) (fun (b145 : Int32) => (pl1 (if 0 < b143 then b143 else 0) (fun (x147 : Int32) => (ob1 (m_count Z w144 5) (fun (b149 : Int32) => (ob2 (if b149 = (b142 + x147) then (ob2 (m_mend Z w144 (nI s)) (fun (b196 : Int32) (w197 : OV) => (some (b196, w197)))) else (some ((-1), w144))) (fun (x153 : Int32) (w154 : OV) => (if b143 = (-2) then (if x153 = (-2) then (if (b142 + x147) < 2 then (some (1, w154)) else (ob1 (m_count Z w154 3) (fun (b173 : Int32) => (if ((nI hs) - (10 * b173)) < 3 then (some (1, w154)) else (some (0, w154)))))) else (if x153 = (-3) then (ob1 (m_stand Z w154 (nI s) 0) (fun (b170 : Int32) => (if (nI (zc S s n)) < b170 then (some (0, w154)) else (some (1, w154))))) else (if x153 < 0 then (some (0, w154)) else (ob1 (m_umbrella w154 x153 3) (fun (b160 : Int32) => (if b160 = 0 then (ob1 (m_umbrella w154 x153 1) (fun (b162 : Int32) => (if b162 = (nI s) then (ob1 (m_count Z w154 6) (fun (b164 : Int32) => (if b164 = (b145 + 1) then (ob1 (m_count Z w154 5) (fun (b166 : Int32) => (if b166 = ((b142 + x147) - 2) then (ob1 (m_count Z w154 8) (fun (b168 : Int32) => (if b168 = ((nI hs) - 3) then (some (1, w154)) else (some (0, w154))))) else (some (0, w154))))) else (some (0, w154))))) else (some (0, w154))))) else (some (0, w154)))))))) else (if 0 < b143 then (ob1 (m_count Z w154 4) (fun (b176 : Int32) => (if b176 = ((nI (zk S 2 n)) - b143) then (if x153 = (-2) then (if (b142 + x147) < 2 then (some (1, w154)) else (ob1 (m_count Z w154 3) (fun (b194 : Int32) => (if ((nI hs) - (10 * b194)) < 3 then (some (1, w154)) else (some (0, w154)))))) else (if x153 = (-3) then (ob1 (m_stand Z w154 (nI s) 0) (fun (b191 : Int32) => (if (nI (zc S s n)) < b191 then (some (0, w154)) else (some (1, w154))))) else (if x153 < 0 then (some (0, w154)) else (ob1 (m_umbrella w154 x153 3) (fun (b181 : Int32) => (if b181 = 0 then (ob1 (m_umbrella w154 x153 1) (fun (b183 : Int32) => (if b183 = (nI s) then (ob1 (m_count Z w154 6) (fun (b185 : Int32) => (if b185 = (b145 + 1) then (ob1 (m_count Z w154 5) (fun (b187 : Int32) => (if b187 = ((b142 + x147) - 2) then (ob1 (m_count Z w154 8) (fun (b189 : Int32) => (if b189 = ((nI hs) - 3) then (some (1, w154)) else (some (0, w154))))) else (some (0, w154))))) else (some (0, w154))))) else (some (0, w154))))) else (some (0, w154)))))))) else (some (0, w154))))) else (some (0, w154)))))))))))))))) : Option (Int32 × OV)) = some (1, v1) ∧ yV (b + 1) v1 := by
  have ok := hv.ok
  have hn := a.1.1
  have h3 := zk_le S 3 n
  have h2 := zk_le S 2 n
  rcases yToWork (Z := Z) (by omega) ok a hw with e1 | ⟨c', S', q, hq, hq60, e1, a', z1, z2, z3, z4, z5⟩
  · obtain ⟨x, v1, m1, m2, m3, m4, -⟩ := yTail (p := zk S 3 n) (q := 0) (g := zk S 4 n) hZ hv a hb hs' rfl rfl
    rw [oC5 (by omega) ok a, zob1, e1, zob2, oC6 (by omega) ok a, zob1, if_neg (by decide), zpl1, oC5 (by omega) ok a, zob1, if_pos (Int32.add_zero _).symm, m1, zob2, zob2, if_pos rfl]
    unfold yTl at m3
    exact ⟨v1, m3, m4⟩
  · have w1 := hv.w (b' := b) (c := c') (by omega) ⟨_, _, _, _, _, _, _, _, _, _, _, _, _, _, hb, a'⟩
    have a2 : yC n S' W H T C P O R Y h r hs sn (yW v c').1 := a'
    obtain ⟨x, v1, m1, m2, m3, m4, n1, S1, W1, H1, T1, C1, P1, O1, R1, Y1, h1, r1, hs1, sn1, m5, m6⟩ := yTail (p := zk S 3 n) (q := q) (g := zk S' 4 n) hZ w1 a2 hb hs' z2 rfl
    rw [z5 s hs'] at m3
    have kq : (0 < nI q) = (0 < q) := zlt (a := 0) (by omega) (by omega)
    rw [oC5 (by omega) ok a, zob1, e1, zob2, oC6 (by omega) w1.ok a2, zob1, if_pos (by rw [kq]; exact hq), zpl1, oC5 (by omega) w1.ok a2, zob1, z2, if_pos (nI_add _ _).symm, m1, zob2, zob2, if_neg (zn2 (by omega)), if_pos (by rw [kq]; exact hq), oC4 (by omega) m4.ok m5, zob1, m6, if_pos (by rw [zsub (by omega)]; congr 1; omega)]
    unfold yTl at m3
    exact ⟨v1, m3, m4⟩
def ylst (c : Nat → Nat) : Option Nat → Nat
  | none => 99
  | some t => c t
theorem yA_1229 (hZ : 35000 < Z) (ok : OK v) (a : yC n S W H T C P O R Y h r hs sn v.1) : f_L_acts_L1229 Z v Z 0 99 0 = some (nI (zful (fun s => zc S s n) 8), nI (ylst (fun s => zc S s n) (zemp (fun s => zc S s n) v.1.2.2.2.2.2.1 8))) := by
  have hn := a.1.1
  exact zloop0 (fun F (x : Int32 × Int32) i => f_L_acts_L1229 Z v F x.1 x.2 i) (fun i => (nI (zful (fun s => zc S s n) i), nI (ylst (fun s => zc S s n) (zemp (fun s => zc S s n) v.1.2.2.2.2.2.1 i)))) 8 _ (F := Z) (by omega) (fun F => by
    show f_L_acts_L1229 Z v (F + 1) _ _ _ = _
    rw [f_L_acts_L1229, if_neg (by decide)]) (fun F i hi => by
    show f_L_acts_L1229 Z v (F + 1) _ _ _ = f_L_acts_L1229 Z v F _ _ _
    have h8 := zful_8 (fun s => zc S s n) (i := i) (by omega)
    have l1 := zc_le S i n
    have l2 := zc_le S (zful (fun s => zc S s n) i) n
    have hR := a.2.2.1 i hi
    have k1 : (nI (zc S (zful (fun s => zc S s n) i) n) < nI (zc S i n)) = (zc S (zful (fun s => zc S s n) i) n < zc S i n) := zlt (by omega) (by omega)
    have k2 : (nI (zc S i n) < nI (R i)) = (zc S i n < R i) := zlt (by omega) (by omega)
    have k3 : (0 < v.1.2.2.2.2.2.1 i - nI (zc S i n)) = (zc S i n < R i) := by
      rw [hR.1, zsub hR.2.2, show (0 : Int32) = nI 0 from rfl, zlt (by omega) (by omega)]; apply propext; omega
    have e1 : (if zc S (zful (fun s => zc S s n) i) n < zc S i n then nI i else nI (zful (fun s => zc S s n) i)) = nI (zful (fun s => zc S s n) (i + 1)) := by
      rw [zful]; split <;> rfl
    have ez : zemp (fun s => zc S s n) v.1.2.2.2.2.2.1 (i + 1) = if (0 < v.1.2.2.2.2.2.1 i - nI (zc S i n)) ∧ (∀ m ∈ zemp (fun s => zc S s n) v.1.2.2.2.2.2.1 i, zc S i n < zc S m n) then some i else zemp (fun s => zc S s n) v.1.2.2.2.2.2.1 i := rfl
    have hm : ∀ m, zemp (fun s => zc S s n) v.1.2.2.2.2.2.1 i = some m → m < i := fun m hm => (zam_ok hm).1
    rw [f_L_acts_L1229, if_pos (show nI i < 8 from nI_lt (b := 8) hi (by decide)), oS1 ok a hi, zob1, oS1 ok a h8, zob1]
    simp only [k1, e1, zpl1, oS0 ok a hi, zob1, k2]
    rw [nI_1, ez]
    generalize zemp (fun s => zc S s n) v.1.2.2.2.2.2.1 i = o at hm ⊢
    by_cases d : zc S i n < R i
    · have d' : 0 < v.1.2.2.2.2.2.1 i - nI (zc S i n) := by rw [k3]; exact d
      rw [if_pos d]
      cases o with
      | none =>
        have k4 : (nI (zc S i n) < nI (ylst (fun s => zc S s n) none)) := by
          show nI (zc S i n) < nI 99
          exact nI_lt (by omega) (by decide)
        rw [if_pos k4, zob1, if_pos ⟨d', fun m hm => by cases hm⟩]
        rfl
      | some m =>
        have l3 := zc_le S m n
        have k4 : (nI (zc S i n) < nI (ylst (fun s => zc S s n) (some m))) = (zc S i n < zc S m n) := zlt (b := zc S m n) (by omega) (by omega)
        simp only [k4]
        by_cases d2 : zc S i n < zc S m n
        · rw [if_pos d2, zob1, if_pos ⟨d', fun x hx => by cases hx; exact d2⟩]
          rfl
        · rw [if_neg d2, zob1, if_neg (fun x => d2 (x.2 m rfl))]
    · rw [if_neg d, zob1, if_neg (fun x => d (by rw [← k3]; exact x.1))])
theorem yA_level (hZ : 35000 < Z) (hv : yV b v) (a : yC n S W H T C P O R Y h r hs sn v.1) (hb : h ≤ b) (hb30 : b < 30) {e rn : Nat} (he : e ≤ 1) (hr : rn ≤ 9) : ∃ v1 : OV, ((ob2 (m_level Z v) (fun (b13 : Int32) (w14 : OV) => (ob2 (f_L_acts_L1229 Z w14 Z 0 99 0) (fun (e69 : Int32) (e70 : Int32) => (ob2 (if b13 < 0 then (some (0, w14)) else (if e70 = 99 then (ob2 (m_level Z w14) (fun (b109 : Int32) (w110 : OV) => (if b109 = 0 then (some (1, w110)) else (some (0, w110))))) else (ob1 (m_stand Z w14 e69 1) (fun (b112 : Int32) => (if b112 < (e70 + 2) then (ob2 (m_level Z w14) (fun (b114 : Int32) (w115 : OV) => (if b114 = 0 then (some (1, w115)) else (some (0, w115))))) else (ob1 (m_stand Z w14 e69 3) (fun (b117 : Int32) => (if b117 = (-9) then (ob2 (m_level Z w14) (fun (b119 : Int32) (w120 : OV) => (if b119 = 0 then (some (1, w120)) else (some (0, w120))))) else (some (0, w14)))))))))) (fun (x87 : Int32) (w88 : OV) => (ob2 (m_take w88 (nI e)) (fun (b90 : Int32) (w91 : OV) => (if x87 = 0 then (some (0, w91)) else (ob1 (m_count Z w91 0) (fun (b93 : Int32) => (if b90 = b93 then (ob2 (b01 (f_L_hour Z w91 (nI rn) 3)) (fun (b95 : Int32) (w96 : OV) => (if b95 = 0 then (some (0, w96)) else (ob2 (m_restore w96 (nI e)) (fun (b98 : Int32) (w99 : OV) => (if b98 = b90 then (ob1 (m_count Z w99 0) (fun (b101 : Int32) => (if b101 = b90 then (ob1 (m_count Z w99 8) (fun (b103 : Int32) => (if b103 = (nI hs) then (ob2 (m_restore w99 2) (fun (b105 : Int32) (w106 : OV) => (if b105 = (-1) then (some (1, w106)) else (some (0, w106))))) else (some (0, w99))))) else (some (0, w99))))) else (some (0, w99)))))))) else (some (0, w91)))))))))))))) : Option (Int32 × OV)) = some (1, v1) ∧ yV (b + 1) v1 := by
  have ok := hv.ok
  have hn := a.1.1
  obtain ⟨c', S', q, hq, e1, a', ev⟩ := yLevel (Z := Z) (by omega) ok a
  have hrc : yR b c' := ⟨_, _, _, _, _, _, _, _, _, _, _, _, _, _, hb, a'⟩
  have w1 := hv.w (b' := b) (c := c') (by omega) hrc
  have a1 : yC n S' W H T C P O R Y h r hs sn (yW v c').1 := a'
  have e2 := yLevel0 (Z := Z) (v := yW v c') (by omega) w1.ok a1 ev
  have w2 : yV b (yW (yW v c') c') := w1.w (b' := b) (c := c') (by omega) hrc
  have a2 : yC n S' W H T C P O R Y h r hs sn (yW (yW v c') c').1 := a'
  have e2' : m_level Z (yW v c') = some (0, yW (yW v c') c') := e2
  obtain ⟨t1, t2⟩ := yTake w2 (s := e) he
  have a3 : yC n S' W H T C P O R Y h r hs sn (yT e (yW (yW v c') c')).1 := a'
  have th : (yW (yW v c') c').1.2.2.2.2.2.2.2.2.2.2.1 = nI h := a'.2.2.2.1
  rw [th] at t1
  obtain ⟨c2, S2, W2, H2, T2, C2, Y2, hs2, l1, l2⟩ := yHour (Z := Z) (rn := rn) (gs := 3) (by omega) t2.ok a3 t2 (by omega) hr (by omega)
  have l1' : f_L_hour Z (yT e (yW (yW v c') c')) (nI rn) 3 = some (1, yW (yT e (yW (yW v c') c')) c2) := l1
  have hrc2 : yR (b + 1) c2 := ⟨_, _, _, _, _, _, _, _, _, _, _, _, _, _, by omega, l2⟩
  have r1 := yRestT (b := b) (b' := b + 1) (by omega) w2 hrc2 he
  rw [th] at r1
  have w3 := t2.w (b' := b + 1) (c := c2) (by omega) hrc2
  have w4 : yV (b + 1) (yW (yW (yT e (yW (yW v c') c')) c2) (yW (yW v c') c').1) := w3.w (by omega) (hrc.mono (by omega))
  have a4 : yC n S' W H T C P O R Y h r hs sn (yW (yW (yT e (yW (yW v c') c')) c2) (yW (yW v c') c').1).1 := a'
  have hf8 := zful_8 (fun s => zc S' s n) (i := 8) (by omega)
  have hcf := zc_le S' (zful (fun s => zc S' s n) 8) n
  have hR : (if nI q < 0 then (some ((0 : Int32), yW v c')) else (if nI (ylst (fun s => zc S' s n) (zemp (fun s => zc S' s n) (yW v c').1.2.2.2.2.2.1 8)) = 99 then (ob2 (m_level Z (yW v c')) (fun (b109 : Int32) (w110 : OV) => (if b109 = 0 then (some (1, w110)) else (some (0, w110))))) else (ob1 (m_stand Z (yW v c') (nI (zful (fun s => zc S' s n) 8)) 1) (fun (b112 : Int32) => (if b112 < (nI (ylst (fun s => zc S' s n) (zemp (fun s => zc S' s n) (yW v c').1.2.2.2.2.2.1 8)) + 2) then (ob2 (m_level Z (yW v c')) (fun (b114 : Int32) (w115 : OV) => (if b114 = 0 then (some (1, w115)) else (some (0, w115))))) else (ob1 (m_stand Z (yW v c') (nI (zful (fun s => zc S' s n) 8)) 3) (fun (b117 : Int32) => (if b117 = (-9) then (ob2 (m_level Z (yW v c')) (fun (b119 : Int32) (w120 : OV) => (if b119 = 0 then (some (1, w120)) else (some (0, w120))))) else (some (0, (yW v c')))))))))) ) = some (1, yW (yW v c') c') := by
    rw [if_neg (nI_pos (by omega))]
    have ev' : yEv S' W n (yW v c').1.2.2.2.2.2.1 := ev
    unfold yEv at ev'
    have hze : ∀ t, zemp (fun s => zc S' s n) (yW v c').1.2.2.2.2.2.1 8 = some t → zc S' t n ≤ n := fun t _ => zc_le S' t n
    generalize zemp (fun s => zc S' s n) (yW v c').1.2.2.2.2.2.1 8 = o at ev' hze ⊢
    cases o with
    | none => rw [if_pos (show nI (ylst (fun s => zc S' s n) none) = 99 from rfl), e2', zob2, if_pos rfl]
    | some t =>
      have hzt := hze t rfl
      have ey : ylst (fun s => zc S' s n) (some t) = zc S' t n := rfl
      have k1 : ¬ nI (zc S' t n) = 99 := fun x => by
        have x2 : nI (zc S' t n) = nI 99 := x
        have := (nI_eq (by omega) (by omega)).1 x2
        omega
      have k2 : (nI (zc S' (zful (fun s => zc S' s n) 8) n) < nI (zc S' t n) + 2) = (zc S' (zful (fun s => zc S' s n) 8) n < zc S' t n + 2) := by
        rw [zl2, zadd, zlt (by omega) (by omega)]
      rw [ey, if_neg k1, oS1 w1.ok a1 hf8, zob1]
      simp only [k2]
      by_cases d : zc S' (zful (fun s => zc S' s n) 8) n < zc S' t n + 2
      · rw [if_pos d, e2', zob2, if_pos rfl]
      · rw [if_neg d, oS3 (by omega) w1.ok a1 hf8, zob1]
        rcases ev' with x | ⟨t', x, y⟩ | x
        · cases x
        · cases x; exact absurd y d
        · rw [x, if_pos zev0, e2', zob2, if_pos rfl]
  rw [e1, zob2, yA_1229 hZ w1.ok a1, zob2, hR, zob2, t1, zob2, if_neg (by decide), oC0 t2.ok a3, zob1, if_pos rfl, l1', b01_in, zob2, if_neg (by decide), r1, zob2, if_pos rfl, oC0 w4.ok a4, zob1, if_pos rfl, oC8 w4.ok a4, zob1, if_pos rfl, yRest2 w4.ok, zob2, if_pos rfl]
  exact ⟨_, rfl, w4⟩
end ac
