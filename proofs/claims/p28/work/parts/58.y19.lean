section ac
variable {v : OV} {n : Nat} {S W : Nat → Nat} {H : Nat → Option Nat} {T C P O R Y : Nat → Nat} {h r hs sn b : Nat} {Z : Nat}
theorem yA_load (hZ : 35000 < Z) (hv : yV b v) (a : yC n S W H T C P O R Y h r hs sn v.1) (hb : h ≤ b) (hb30 : b < 30) {s w m : Nat} (hs' : s < 8) (hw : w < 2) (hm1 : 1 ≤ m) (hm : m ≤ 10) : ∃ v1 : OV, ((ob1 (m_stand Z v (nI s) 4) (fun (b213 : Int32) => (ob2 (m_load Z v (nI w) (nI s) (nI m)) (fun (b214 : Int32) (w215 : OV) => (if b214 = (-2) then (if (nI (zc S s n)) < (nI m) then (some (1, w215)) else (some (0, w215))) else (if b214 = (-3) then (some (1, w215)) else (if (nI m) < b214 then (some (0, w215)) else (ob1 (m_count Z w215 4) (fun (b219 : Int32) => (if b219 = ((nI (zk S 2 n)) + (nI m)) then (ob1 (m_umbrella w215 b213 0) (fun (b221 : Int32) => (if b221 = 2 then (ob1 (m_umbrella w215 b213 1) (fun (b223 : Int32) => (if b223 = (nI w) then (ob1 (m_stand Z w215 (nI s) 1) (fun (b225 : Int32) => (if b225 = ((nI (zc S s n)) - (nI m)) then (some (1, w215)) else (some (0, w215))))) else (some (0, w215))))) else (some (0, w215))))) else (some (0, w215)))))))))))) : Option (Int32 × OV)) = some (1, v1) ∧ yV (b + 1) v1 := by
  have ok := hv.ok
  have hn := a.1.1
  have hcl := zc_le S s n
  rcases yLoad (Z := Z) (by omega) ok a hw hs' hm1 hm with ⟨c1, e1⟩ | e1 | ⟨c1, c', S', q, x, e1, hq, a', z1, z2, z3, hx, z4⟩
  · rw [oS4 (by omega) ok a hs', zob1, e1, zob2, if_pos rfl, if_pos (by rw [zlt (by omega) (by omega)]; exact c1)]
    exact ⟨v, rfl, hv.mono (by omega)⟩
  · rw [oS4 (by omega) ok a hs', zob1, e1, zob2, if_neg (by decide), if_pos rfl]
    exact ⟨v, rfl, hv.mono (by omega)⟩
  · have w1 := hv.w (b' := b + 1) (c := c') (by omega) ⟨_, _, _, _, _, _, _, _, _, _, _, _, _, _, by omega, a'⟩
    have a2 : yC n S' W H T C P O R Y h r hs sn (yW v c').1 := a'
    have ez : zev (-9) (some x) = nI x := rfl
    have u0 := oU0 w1.ok a2 hx
    have u1 := oU1 w1.ok a2 hx
    have ew : zwI (20 + w) = nI w := by unfold zwI zwh; rw [if_pos (by omega), if_neg (by omega), if_neg (by omega)]; congr 1; omega
    rw [z4, yz2 hw] at u0
    rw [z4, ew] at u1
    rw [oS4 (by omega) ok a hs', zob1, e1, zob2, if_neg (zn2 (by omega)), if_neg (zn3 (by omega)), if_neg (by rw [zlt (by omega) (by omega)]; omega), oC4 (by omega) w1.ok a2, zob1, z2, if_pos (nI_add _ _).symm, z3, ez, u0, zob1, if_pos (show nI 2 = 2 from rfl), u1, zob1, if_pos rfl, oS1 w1.ok a2 hs', zob1, if_pos (by rw [zsub (by omega)]; congr 1; omega)]
    exact ⟨_, rfl, w1⟩
theorem yA_unload (hZ : 35000 < Z) (hv : yV b v) (a : yC n S W H T C P O R Y h r hs sn v.1) (hb : h ≤ b) (hb30 : b < 30) {s w m : Nat} (hs' : s < 8) (hw : w < 2) (hm1 : 1 ≤ m) (hm : m ≤ 10) : ∃ v1 : OV, ((ob2 (m_unload Z v (nI w) (nI s) (nI m)) (fun (b198 : Int32) (w199 : OV) => (if b198 = (-2) then (some (1, w199)) else (if b198 = (-3) then (ob1 (m_stand Z w199 (nI s) 0) (fun (b211 : Int32) => (if b211 < ((nI (zc S s n)) + (nI m)) then (some (1, w199)) else (some (0, w199))))) else (ob1 (m_count Z w199 4) (fun (b202 : Int32) => (if b202 = ((nI (zk S 2 n)) - (nI m)) then (ob1 (m_stand Z w199 (nI s) 1) (fun (b204 : Int32) => (if b204 = ((nI (zc S s n)) + (nI m)) then (ob1 (m_inVan Z w199 (nI w) b198) (fun (b206 : Int32) => (if b206 = (-9) then (if b198 = 0 then (some (1, w199)) else (ob1 (m_inVan Z w199 (nI w) (b198 - 1)) (fun (b209 : Int32) => (if b209 < 0 then (some (0, w199)) else (some (1, w199)))))) else (some (0, w199))))) else (some (0, w199))))) else (some (0, w199))))))))) : Option (Int32 × OV)) = some (1, v1) ∧ yV (b + 1) v1 := by
  have ok := hv.ok
  have hn := a.1.1
  have hcl := zc_le S s n
  have hR := a.2.2.1 s hs'
  rcases yUnload (Z := Z) (by omega) ok a hw hs' hm1 hm with e1 | ⟨c1, e1⟩ | ⟨c', S', e1, a', z1, z2⟩
  · rw [e1, zob2, if_pos rfl]
    exact ⟨v, rfl, hv.mono (by omega)⟩
  · rw [e1, zob2, if_neg (by decide), if_pos rfl, oS0 ok a hs', zob1, zadd, if_pos (by rw [zlt (by omega) (by omega)]; exact c1)]
    exact ⟨v, rfl, hv.mono (by omega)⟩
  · have w1 := hv.w (b' := b + 1) (c := c') (by omega) ⟨_, _, _, _, _, _, _, _, _, _, _, _, _, _, by omega, a'⟩
    have a2 : yC n S' W H T C P O R Y h r hs sn (yW v c').1 := a'
    have hcv := zc_le S' (20 + w) n
    obtain ⟨q, v1, v2, -⟩ := oV (Z := Z) (by omega) w1.ok a2 hw (p := zc S' (20 + w) n) (by omega)
    have hq := v2 (Nat.le_refl _)
    subst hq
    have v1' : m_inVan Z (yW v c') (nI w) (nI (zc S' (20 + w) n)) = some (-9) := v1
    rw [e1, zob2, if_neg (zn2 (by omega)), if_neg (zn3 (by omega)), oC4 (by omega) w1.ok a2, zob1, ← z2, if_pos (by rw [zsub (by omega)]; congr 1; omega), oS1 w1.ok a2 hs', zob1, z1, if_pos (nI_add _ _).symm, v1', zob1, if_pos rfl]
    by_cases d : nI (zc S' (20 + w) n) = 0
    · rw [if_pos d]; exact ⟨_, rfl, w1⟩
    · rw [if_neg d]
      have d' : 0 < zc S' (20 + w) n := by
        rcases Nat.eq_zero_or_pos (zc S' (20 + w) n) with q | q
        · rw [q] at d; exact absurd rfl d
        · exact q
      obtain ⟨q, v3, -, v4⟩ := oV (Z := Z) (by omega) w1.ok a2 hw (p := zc S' (20 + w) n - 1) (by omega)
      obtain ⟨u, hq, hu⟩ := v4 (by omega)
      subst hq
      have v3' : m_inVan Z (yW v c') (nI w) (nI (zc S' (20 + w) n - 1)) = some (nI u) := v3
      rw [show (1 : Int32) = nI 1 from rfl, zsub (by omega), v3', zob1, if_neg (nI_pos (by omega))]
      exact ⟨_, rfl, w1⟩
noncomputable def yTl (Z : Nat) (hs zs p q g s : Nat) (x153 : Int32) (w154 : OV) : Option (Int32 × OV) := (if x153 = (-2) then (if ((nI p) + (nI q)) < 2 then (some (1, w154)) else (ob1 (m_count Z w154 3) (fun (y0_ : Int32) => (if ((nI hs) - (10 * y0_)) < 3 then (some (1, w154)) else (some (0, w154)))))) else (if x153 = (-3) then (ob1 (m_stand Z w154 (nI s) 0) (fun (y1_ : Int32) => (if (nI zs) < y1_ then (some (0, w154)) else (some (1, w154))))) else (if x153 < 0 then (some (0, w154)) else (ob1 (m_umbrella w154 x153 3) (fun (y2_ : Int32) => (if y2_ = 0 then (ob1 (m_umbrella w154 x153 1) (fun (y3_ : Int32) => (if y3_ = (nI s) then (ob1 (m_count Z w154 6) (fun (y4_ : Int32) => (if y4_ = ((nI g) + 1) then (ob1 (m_count Z w154 5) (fun (y5_ : Int32) => (if y5_ = (((nI p) + (nI q)) - 2) then (ob1 (m_count Z w154 8) (fun (y6_ : Int32) => (if y6_ = ((nI hs) - 3) then (some (1, w154)) else (some (0, w154))))) else (some (0, w154))))) else (some (0, w154))))) else (some (0, w154))))) else (some (0, w154))))))))
theorem yTail (hZ : 35000 < Z) (hv : yV b v) (a : yC n S W H T C P O R Y h r hs sn v.1) (hb : h ≤ b) {s p q g : Nat} (hs' : s < 8) (hp : zk S 3 n = p + q) (hg : zk S 4 n = g) : ∃ x v1, m_mend Z v (nI s) = some (x, v1) ∧ zk S 3 n = p + q ∧ yTl Z hs (zc S s n) p q g s x v1 = some (1, v1) ∧ yV (b + 1) v1 ∧ ∃ n1 S1 W1 H1 T1 C1 P1 O1 R1 Y1 h1 r1 hs1 sn1, yC n1 S1 W1 H1 T1 C1 P1 O1 R1 Y1 h1 r1 hs1 sn1 v1.1 ∧ zk S1 2 n1 = zk S 2 n := by
  have ok := hv.ok
  have hn := a.1.1
  have hh := yhs a
  have hcl := zc_le S s n
  have hR := a.2.2.1 s hs'
  have h3 := zk_le S 3 n
  have h4 := zk_le S 4 n
  rcases yMend (Z := Z) (by omega) ok a hs' with ⟨c1, e1⟩ | ⟨c1, e1⟩ | ⟨c1, c', S', W', x, hx, e1, a', z1, z2, z3, z4, z5⟩
  · refine ⟨-2, v, e1, hp, ?_, hv.mono (by omega), _, _, _, _, _, _, _, _, _, _, _, _, _, _, a, rfl⟩
    unfold yTl
    rw [if_pos rfl, zadd]
    have k2 : (nI (p + q) < 2) = (p + q < 2) := zlt (b := 2) (by omega) (by omega)
    simp only [k2]
    by_cases d : p + q < 2
    · rw [if_pos d]
    · rw [if_neg d, oC3 (by omega) ok a, zob1, zl10, zmul, zsub (by omega), zl3, if_pos (by rw [zlt (by omega) (by omega)]; omega)]
  · refine ⟨-3, v, e1, hp, ?_, hv.mono (by omega), _, _, _, _, _, _, _, _, _, _, _, _, _, _, a, rfl⟩
    unfold yTl
    rw [if_neg (by decide), if_pos rfl, oS0 ok a hs', zob1, if_neg (by rw [zlt (by omega) (by omega)]; omega)]
  · have w1 := hv.w (b' := b + 1) (c := c') (by omega) ⟨_, _, _, _, _, _, _, _, _, _, _, _, _, _, by omega, a'⟩
    have a2 : yC n S' W' H T C P O R Y h r (hs - 3) (sn + 3) (yW v c').1 := a'
    have u3 := oU3 w1.ok a2 hx
    rw [if_pos z2] at u3
    have u1 := oU1 w1.ok a2 hx
    rw [z1, show zwI s = nI s by unfold zwI zwh; rw [if_pos (by omega), if_pos hs']] at u1
    refine ⟨nI x, yW v c', e1, hp, ?_, w1, _, _, _, _, _, _, _, _, _, _, _, _, _, _, a2, ?_⟩
    · unfold yTl
      rw [if_neg (zn2 (by omega)), if_neg (zn3 (by omega)), if_neg (nI_pos (by omega)), u3, zob1, if_pos rfl, u1, zob1, if_pos rfl, oC6 (by omega) w1.ok a2, zob1, z3, hg, if_pos (show nI (g + 1) = nI g + 1 from (nI_add g 1).symm), oC5 (by omega) w1.ok a2, zob1, if_pos (by rw [zadd, zl2, zsub (by omega)]; congr 1; omega), oC8 w1.ok a2, zob1, if_pos (by rw [zl3, zsub c1])]
    · exact z5
end ac
