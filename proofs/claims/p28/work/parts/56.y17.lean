section lh
variable {v w : OV} {n : Nat} {S S' W W' : Nat → Nat} {H H' : Nat → Option Nat} {T T' C C' P O R Y Y' : Nat → Nat} {h h' r hs hs' sn : Nat} {Z : Nat}
theorem yH227 (hZ : 5000 < Z) (ok : OK w) (a : yC n S' W' H' T' C' P O R Y' h' r hs' sn w.1) (hW : ∀ u, u < n → ¬ zhd (S u) → W' u = W u) (hWl : ∀ u, W u ≤ 64) : f_L_hour_L227 Z (ywA n S W) w Z 1 0 = some 1 := by
  have hn := a.1.1
  exact zloop0 (fun F (x : Int32) i => f_L_hour_L227 Z (ywA n S W) w F x i) (fun _ => 1) n 1 (F := Z) (by omega) (fun F => by
    show f_L_hour_L227 Z (ywA n S W) w (F + 1) _ _ = _
    rw [f_L_hour_L227, oC1 ok a, zob1, if_neg (fun q => absurd q (by rw [zlt (by omega) (by omega)]; omega))]) (fun F i hi => by
    show f_L_hour_L227 Z (ywA n S W) w (F + 1) _ _ = f_L_hour_L227 Z (ywA n S W) w F _ _
    have hl := hWl i
    have g : aget 60 (ywA n S W) (nI i) = some (if zhd (S i) then -1 else nI (W i)) := by
      rw [zag (by omega) (by omega)]; unfold ywA; rw [if_pos hi]
    rw [f_L_hour_L227, oC1 ok a, zob1, if_pos (nI_lt hi (by omega)), if_neg (by decide), nI_1]
    by_cases c : zhd (S i)
    · rw [if_pos c] at g
      rw [g, zob1, if_pos (by decide), zob1]
    · rw [if_neg c] at g
      simp only [g, znn (show W i < 1000000 by omega), zob1, if_false]
      rw [oU2 ok a hi, zob1, hW i hi c, if_pos rfl, zob1])
theorem yH281 (hZ : 5000 < Z) (ok : OK w) (a : yC n S' W' H' T' C' P O R Y' h' r hs' sn w.1) {rn gs : Nat} (hr : rn ≤ 9) (hg : gs ≤ 3) (hH : ∀ k u, k < 12 → H k = some u → H' k = some u ∧ u < n ∧ W' u = zwo (W u) rn gs ∧ W u ≤ 64) : f_L_hour_L281 Z (nI rn) (nI gs) (fun k => if k < 12 then ybrk W rn gs (H k) else 0) w Z 1 0 = some 1 := by
  have hn := a.1.1
  exact zloop0 (fun F (x : Int32) i => f_L_hour_L281 Z (nI rn) (nI gs) (fun k => if k < 12 then ybrk W rn gs (H k) else 0) w F x i) (fun _ => 1) 12 1 (F := Z) (by omega) (fun F => by
    show f_L_hour_L281 Z (nI rn) (nI gs) _ w (F + 1) _ _ = _
    rw [f_L_hour_L281, if_neg (by decide)]) (fun F i hi => by
    show f_L_hour_L281 Z (nI rn) (nI gs) _ w (F + 1) _ _ = f_L_hour_L281 Z (nI rn) (nI gs) _ w F _ _
    have g : aget 12 (fun k => if k < 12 then ybrk W rn gs (H k) else 0) (nI i) = some (ybrk W rn gs (H i)) := by
      rw [zag hi (by omega), if_pos hi]
    rw [f_L_hour_L281, if_pos (show nI i < 12 from nI_lt (b := 12) hi (by decide)), if_neg (by decide), oP1 hZ ok a hi, zob1]
    simp only [g, zob1]
    rw [nI_1]
    cases hHi : H i with
    | none =>
      have e2 : (ybrk W rn gs none < 0) = True := eq_true (show (-2 : Int32) < 0 by decide)
      simp only [e2, if_true, zob1]
    | some u =>
      obtain ⟨q1, q2, q3, q4⟩ := hH i u hi hHi
      have hy : ybrk W rn gs (some u) = zev (-9) (zhb rn gs 100 (W u) 0) := rfl
      rw [hy]
      cases hq : zhb rn gs 100 (W u) 0 with
      | none =>
        have e2 : (zev (-9) none < (0 : Int32)) = True := eq_true (show (-9 : Int32) < 0 by decide)
        simp only [e2, if_true, zob1]
      | some q =>
        have hl := (zhb_ge _ _ _ _ hq).2.2.1
        have hnx := zhb_next hq
        have ez : zev (-9) (some q) = nI q := rfl
        have e0 : (nI q < 0) = False := znn (by omega)
        have e9 : (zev (-9) (some u) = (-9 : Int32)) = False := by show (nI u = -9) = False; exact zn9 (by omega)
        have ez2 : zev (-9) (some u) = nI u := rfl
        have eq2 : (nI q < 2) = (q < 2) := zlt (b := 2) (by omega) (by omega)
        have hge := zwo_ge rn gs q4
        have u3 := oU3 ok a q2
        have b3 := oB hZ ok a hi hr hg
        rw [q1] at b3
        rw [q1]
        simp only [ez, e0, e9, if_false]
        simp only [ez2, u3, zob1, eq2]
        by_cases c : q < 2
        · have d : ¬ W' u < 32 := by
            rw [q3]
            rcases hnx.1.1 c with x | x <;> omega
          simp only [c, d, if_true, if_false, yq11, zpl1, zob1]
        · have d : W' u < 32 := by
            rw [q3]
            rcases Nat.lt_or_ge (zwo (W u) rn gs) 32 with x | x
            · exact x
            · exact absurd (hnx.1.2 (Or.inl x)) c
          have hy2 : ybrk W' rn gs (some u) = nI q - 1 := by
            show zev (-9) (zhb rn gs 100 (W' u) 0) = _
            rw [q3, hnx.2 (by omega)]
            show nI (q - 1) = _
            rw [show (1 : Int32) = nI 1 from rfl, zsub (by omega)]
          simp only [c, d, if_true, if_false, yq01, zpl1, zob1, b3, hy2])
theorem yHour (hZ : 5000 < Z) (ok : OK v) (a : yC n S W H T C P O R Y h r hs sn v.1) {b : Nat} (hv : yV b v) (hh : h < 100) {rn gs : Nat} (hr : rn ≤ 9) (hg : gs ≤ 3) : ∃ c' S' W' H' T' C' Y' hs', f_L_hour Z v (nI rn) (nI gs) = some (1, yW v c') ∧ yC n S' W' H' T' C' P O R Y' (h + 1) r hs' sn c' := by
  have hn := a.1.1
  obtain ⟨c', S', H', C', Y', hs', l1, l2, l3, l4, l5⟩ := yPass (rn := rn) (gs := gs) hZ ok a hh hr hg
  have hrc : yR (max b (h + 1)) c' := ⟨n, S', _, H', _, C', P, O, R, Y', h + 1, r, hs', sn, by omega, l2⟩
  have okw : OK (yW v c') := (hv.w (b' := max b (h + 1)) (by omega) hrc).ok
  have aw : yC n S' (zW1 S W n rn gs) H' (zT1 H T rn) C' P O R Y' (h + 1) r hs' sn (yW v c').1 := l2
  have hW := a.1.2.2.2.1
  have k4 : ((4 : Int32) < nI rn) = (4 < rn) := by rw [zl4, zlt (by omega) (by omega)]
  have k5 : (nI rn < (5 : Int32)) = (rn < 5) := by rw [zl5, zlt (by omega) (by omega)]
  have c13 : m_count Z (yW v c') 13 = some (v.1.2.2.2.2.2.2.2.2.2.2.2.2.2.2.1 + (if 4 < rn then 1 else 0)) := by
    rw [oC13 okw]
    show some c'.2.2.2.2.2.2.2.2.2.2.2.2.2.2.1 = _
    rw [l3]
    by_cases c : rn < 5
    · rw [if_pos c, if_neg (by omega)]
    · rw [if_neg c, if_pos (by omega)]
  have c0 : m_count Z (yW v c') 0 = some (nI h + 1) := by rw [oC0 okw aw, nI_1]
  have h227 := yH227 (Z := Z) (S := S) (W := W) hZ okw aw (fun u hu c => by unfold zW1; rw [if_neg (fun x => c x.2)]) hW
  have h281 := yH281 (Z := Z) (W := W) (H := H) (rn := rn) (gs := gs) hZ okw aw hr hg (fun k u hk e => by
    have hu := (a.2.1.1 k hk u).1 e
    refine ⟨l4 k u hk e, hu.1, ?_, hW u⟩
    unfold zW1
    rw [if_pos ⟨hu.1, by unfold zhd; omega⟩])
  have hE : ¬ rn < 5 → zes (fun s => ¬ zwant H C O s 12 < zw S W s n) 8 = zes (fun s => zw S' (zW1 S W n rn gs) s n = 0) 8 := fun c => zes_cg (fun i hi => by
    have := l5 (by omega) i hi
    omega)
  refine ⟨c', S', zW1 S W n rn gs, H', zT1 H T rn, C', Y', hs', ?_, l2⟩
  unfold f_L_hour
  rw [oC13 ok, zob1, oC0 ok a, zob1, oE hZ ok a, zob1, yH32 hZ ok a hr hg, zob2, yH86 hZ ok a, zob1, l1, zob2]
  simp only [if_true, c0, c13, k4, k5, zob1]
  have kx : pl1 (if 4 < rn then 1 else 0) (fun (x248 : Int32) => if v.1.2.2.2.2.2.2.2.2.2.2.2.2.2.2.1 + (if 4 < rn then 1 else 0) = v.1.2.2.2.2.2.2.2.2.2.2.2.2.2.2.1 + x248 then some (1 : Int32) else some 0) = some 1 := by
    rw [zpl1, if_pos rfl]
  rw [kx, zob1, yH186 hZ okw aw, zob1, h227, zob1, h281, zob1, if_neg (by decide)]
  by_cases c : rn < 5
  · rw [if_pos c]
  · rw [if_neg c, if_pos (hE c)]
end lh
