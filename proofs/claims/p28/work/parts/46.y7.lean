section pl
variable {v : OV} {n : Nat} {S W : Nat → Nat} {H : Nat → Option Nat} {T C P O R Y : Nat → Nat} {h r hs sn : Nat} {Z : Nat}
theorem yPl480 (hZ : 5000 < Z) (ok : OK v) (a : yC n S W H T C P O R Y h r hs sn v.1) : f_L_places_L480 Z v (nI n) (nI (zsm (fun u => zid (S u ≠ 23 ∧ 32 ≤ W u)) n)) (nI (zsm Y n)) (fun p => nI (zk S p n)) Z 0 = some 1 := by
  have h1 := zloop0 (fun F (_ : Unit) i => f_L_places_L480 Z v (nI n) (nI (zsm (fun u => zid (S u ≠ 23 ∧ 32 ≤ W u)) n)) (nI (zsm Y n)) (fun p => nI (zk S p n)) F i) (fun _ => ()) 5 1 (F := Z) (by omega) (fun F => by
    show f_L_places_L480 Z v (nI n) _ _ _ (F + 1) _ = _
    rw [f_L_places_L480, if_neg (by decide), oC7 hZ ok a, zob1, if_pos rfl, oC12 ok a, zob1, if_pos rfl, oUn ok a, zob1, if_pos rfl]) (fun F i hi => by
    show f_L_places_L480 Z v (nI n) _ _ _ (F + 1) _ = f_L_places_L480 Z v (nI n) _ _ _ F _
    rw [f_L_places_L480, if_pos (show nI i < 5 from nI_lt (b := 5) hi (by decide)), show (2 : Int32) + nI i = nI (2 + i) from nI_add 2 i, oCk hZ ok a (by omega), zob1, zag hi (by omega), zob1, if_pos rfl, nI_1])
  exact h1
theorem yPl315 (hZ : 5000 < Z) (ok : OK v) (a : yC n S W H T C P O R Y h r hs sn v.1) : f_L_places_L315 Z v (nI n) (nI (zsm (fun u => zid (S u ≠ 23 ∧ 32 ≤ W u)) n)) (nI (zsm Y n)) (fun p => nI (zk S p n)) (fun s => if s < 8 then nI (zc S s n) else 0) Z 0 = some 1 := by
  have hn := a.1.1
  have h1 := zloop0 (fun F (_ : Unit) i => f_L_places_L315 Z v (nI n) (nI (zsm (fun u => zid (S u ≠ 23 ∧ 32 ≤ W u)) n)) (nI (zsm Y n)) (fun p => nI (zk S p n)) (fun s => if s < 8 then nI (zc S s n) else 0) F i) (fun _ => ()) 8 1 (F := Z) (by omega) (fun F => by
    show f_L_places_L315 Z v (nI n) _ _ _ _ (F + 1) _ = _
    rw [f_L_places_L315, if_neg (by decide)]
    exact yPl480 hZ ok a) (fun F s hs' => by
    show f_L_places_L315 Z v (nI n) _ _ _ _ (F + 1) _ = f_L_places_L315 Z v (nI n) _ _ _ _ F _
    have hR := a.2.2.1 s hs'
    have hcl := zc_le S s n
    have hbl := zb_le S W s n
    have g1 : aget 8 (fun s => if s < 8 then nI (zc S s n) else 0) (nI s) = some (nI (zc S s n)) := by
      rw [zag hs' (by omega), if_pos hs']
    have k1 : (nI (R s) < nI (zc S s n)) = False := by rw [zlt (by omega) (by omega)]; exact eq_false (by omega)
    have k2 : (nI (zb S W s n) = nI (zc S s n)) = (zb S W s n = zc S s n) := zeq (by omega) (by omega)
    have k3 : (nI (zc S s n) = 0) = (zc S s n = 0) := zeq (b := 0) (by omega) (by omega)
    have s3 := oS3 hZ ok a hs'
    have s4 := oS4 hZ ok a hs'
    have bn := yBn (S := S) (W := W) (n := n) (s := s)
    have wn := yWn (S := S) (W := W) (n := n) (s := s)
    have kw : (zev (-9) (zwors S W s n) = -9) = (zc S s n = 0) := by
      rw [← wn]
      cases hw : zwors S W s n with
      | none => exact propext ⟨fun _ => rfl, fun _ => rfl⟩
      | some w =>
        have := (zam_ok hw).1
        show (nI w = -9) = _
        rw [zn9 (by omega)]; simp
    rw [f_L_places_L315, if_pos (show nI s < 8 from nI_lt (b := 8) hs' (by decide)), s3]
    simp only [zob1, oS1 ok a hs', g1, oS0 ok a hs', oS2 hZ ok a hs', s4, k1, k2, k3, kw, if_true, if_false]
    rw [nI_1]
    cases hb : zbest S W s n with
    | none =>
      have e := bn.1 hb
      have e9 : zev (-9) none = -9 := rfl
      simp only [e9, e, yq99, yq11, zpl1, if_true, if_false]
    | some b =>
      have e : ¬ zb S W s n = zc S s n := fun q => by rw [bn.2 q] at hb; cases hb
      have hb' := zam_ok hb
      have hSb : S b = s := hb'.2.1
      have hWb : W b < 32 := hb'.2.2
      have e9 : (zev (-9) (some b) = -9) = False := by show (nI b = -9) = False; exact zn9 (by omega)
      have eb : zev (-9) (some b) = nI b := rfl
      have u3 := oU3 ok a hb'.1
      rw [if_pos hWb] at u3
      have u0 := oU0 ok a hb'.1
      have u1 := oU1 ok a hb'.1
      rw [hSb] at u0 u1
      have z0 : zpl s = 0 := by unfold zpl; rw [if_pos hs']
      have z1 : zwI s = nI s := by unfold zwI zwh; rw [if_pos (by omega), if_pos hs']
      rw [z0] at u0
      rw [z1] at u1
      simp only [e9, if_false]
      simp only [eb, e, u0, u1, u3, yq0e0, yq01, yq00, zob1, zpl1, if_true, if_false]
      done)
  exact h1
theorem yPlaces (hZ : 5000 < Z) (ok : OK v) (a : yC n S W H T C P O R Y h r hs sn v.1) : f_L_places Z v = some 1 := by
  have hn := a.1.1
  unfold f_L_places
  rw [oC1 ok a, zob1]
  have h1 := zloop0 (fun F (x : Int32 × Int32 × (Nat → Int32) × (Nat → Int32)) i => f_L_places_L24 Z v (nI n) F x.1 x.2.1 i x.2.2.1 x.2.2.2) (fun i => (nI (zsm (fun u => zid (S u ≠ 23 ∧ 32 ≤ W u)) i), nI (zsm Y i), fun p => nI (zk S p i), fun s => if s < 8 then nI (zc S s i) else 0)) n 1 (F := Z) (by omega) (fun F => by
    show f_L_places_L24 Z v (nI n) (F + 1) _ _ _ _ _ = _
    have e : ¬ nI n < nI n := fun q => absurd q (by rw [zlt (by omega) (by omega)]; omega)
    rw [f_L_places_L24, if_neg e]
    exact yPl315 hZ ok a) (fun F i hi => by
    show f_L_places_L24 Z v (nI n) (F + 1) _ _ _ _ _ = f_L_places_L24 Z v (nI n) F _ _ _ _ _
    rw [yPl24 hZ ok a hi]
    have e1 : nI (zsm (fun u => zid (S u ≠ 23 ∧ 32 ≤ W u)) i) + (if S i ≠ 23 ∧ 32 ≤ W i then 1 else 0) = nI (zsm (fun u => zid (S u ≠ 23 ∧ 32 ≤ W u)) (i + 1)) := by
      simp only [zsm, zid]
      by_cases c : S i ≠ 23 ∧ 32 ≤ W i
      · rw [if_pos c, if_pos c, nI_1]
      · rw [if_neg c, if_neg c, Int32.add_zero]; rfl
    have e2 : nI (zsm Y i) + nI (Y i) = nI (zsm Y (i + 1)) := nI_add _ _
    have e3 : upd (fun p => nI (zk S p i)) (zpl (S i)) (nI (zk S (zpl (S i)) i) + 1) = fun p => nI (zk S p (i + 1)) := by
      funext p
      have hz : zk S p (i + 1) = zk S p i + zid (zpl (S i) = p) := rfl
      by_cases c : p = zpl (S i)
      · rw [zus c, hz, c, nI_1]
        unfold zid; rw [if_pos rfl]
      · rw [zun c, hz]
        unfold zid; rw [if_neg (fun q => c q.symm)]; rfl
    have e4 : (if S i < 8 then upd (fun s => if s < 8 then nI (zc S s i) else 0) (S i) ((if S i < 8 then nI (zc S (S i) i) else 0) + 1) else (fun s => if s < 8 then nI (zc S s i) else 0)) = fun s => if s < 8 then nI (zc S s (i + 1)) else 0 := by
      have hz : ∀ s, zc S s (i + 1) = zc S s i + zid (S i = s) := fun s => rfl
      by_cases c : S i < 8
      · rw [if_pos c, if_pos c]
        funext s
        by_cases d : s = S i
        · rw [zus d, hz, d, if_pos c, nI_1]
          unfold zid; rw [if_pos rfl]
        · rw [zun d, hz]
          have e0 : zid (S i = s) = 0 := by unfold zid; rw [if_neg (fun q => d q.symm)]
          rw [e0]; rfl
      · rw [if_neg c]
        funext s
        by_cases d : s < 8
        · rw [if_pos d, if_pos d, hz]
          unfold zid; rw [if_neg (fun q => c (by omega))]; rfl
        · rw [if_neg d, if_neg d]
    rw [e1, e2, e3, e4])
  have e3 : (fun p => nI (zk S p 0)) = fun (_ : Nat) => (0 : Int32) := rfl
  have e4 : (fun s => if s < 8 then nI (zc S s 0) else 0) = fun (_ : Nat) => (0 : Int32) := by
    funext s; split <;> rfl
  have h2 : f_L_places_L24 Z v (nI n) Z 0 0 0 (fun p => nI (zk S p 0)) (fun s => if s < 8 then nI (zc S s 0) else 0) = some 1 := h1
  rw [e4] at h2
  exact h2
end pl
