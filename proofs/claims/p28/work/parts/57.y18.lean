theorem zn2 {a : Nat} (ha : a < 1000000) : ¬ nI a = (-2 : Int32) := fun h => by have := congrArg Int32.toInt h; rw [nI_toInt (by omega)] at this; simp at this
theorem zn3 {a : Nat} (ha : a < 1000000) : ¬ nI a = (-3 : Int32) := fun h => by have := congrArg Int32.toInt h; rw [nI_toInt (by omega)] at this; simp at this
theorem b01_in {v : OV} : b01 (some (1, v)) = some (1, v) := by
  show (if (1 : Int32) = 0 ∨ (1 : Int32) = 1 then some ((1 : Int32), v) else none) = some (1, v)
  exact if_pos (Or.inr rfl)
theorem zev0 : zev (-9) none = (-9 : Int32) := rfl
theorem yfee0 {W : Nat → Nat} {r t m rn : Nat} : yfee W r t m rn none = -2 := rfl
section ac
variable {v : OV} {n : Nat} {S W : Nat → Nat} {H : Nat → Option Nat} {T C P O R Y : Nat → Nat} {h r hs sn b : Nat} {Z : Nat}
theorem yA_buy (hZ : 35000 < Z) (hv : yV b v) (a : yC n S W H T C P O R Y h r hs sn v.1) (hb : h ≤ b) (hb30 : b < 30) {s m : Nat} (hs' : s < 8) (hm1 : 1 ≤ m) (hm : m ≤ 20) : ∃ v1 : OV, ((ob2 (m_buy Z v (nI s) (nI m)) (fun (b303 : Int32) (w304 : OV) => (if b303 = (-2) then (ob1 (m_count Z w304 3) (fun (b317 : Int32) => (if ((nI hs) - (10 * b317)) < (5 * (nI m)) then (some (1, w304)) else (some (0, w304))))) else (if b303 = (-3) then (if 60 < ((nI n) + (nI m)) then (some (1, w304)) else (ob1 (m_stand Z w304 (nI s) 0) (fun (b315 : Int32) => (if b315 < ((nI (zc S s n)) + (nI m)) then (some (1, w304)) else (some (0, w304)))))) else (if b303 = (nI n) then (ob1 (m_count Z w304 1) (fun (b308 : Int32) => (if b308 = ((nI n) + (nI m)) then (ob1 (m_count Z w304 8) (fun (b310 : Int32) => (if b310 = ((nI hs) - (5 * (nI m))) then (ob1 (m_stand Z w304 (nI s) 1) (fun (b312 : Int32) => (if b312 = ((nI (zc S s n)) + (nI m)) then (some (1, w304)) else (some (0, w304))))) else (some (0, w304))))) else (some (0, w304))))) else (some (0, w304))))))) : Option (Int32 × OV)) = some (1, v1) ∧ yV (b + 1) v1 := by
  have ok := hv.ok
  have hn := a.1.1
  have hh := yhs a
  have hcl := zc_le S s n
  have hR := a.2.2.1 s hs'
  have k1 : nI hs - 10 * nI (zk S 1 n) = nI (hs - 10 * zk S 1 n) := by rw [zl10, zmul, zsub (by omega)]
  have k5 : (5 : Int32) * nI m = nI (5 * m) := by rw [zl5, zmul]
  rcases yBuy (Z := Z) (by omega) ok a hs' hm1 hm with ⟨c1, e⟩ | ⟨c1, e⟩ | ⟨c1, c2, c3, c', S', e, a', z1, z2⟩
  · rw [e, zob2, if_pos rfl, oC3 (by omega) ok a, zob1, k1, k5, if_pos (by rw [zlt (by omega) (by omega)]; omega)]
    exact ⟨v, rfl, hv.mono (by omega)⟩
  · have k60 : ((60 : Int32) < nI n + nI m) = (60 < n + m) := by rw [zadd, zl60, zlt (by omega) (by omega)]
    rw [e, zob2, if_neg (by decide), if_pos rfl]
    by_cases d : (60 : Int32) < nI n + nI m
    · rw [if_pos d]; exact ⟨v, rfl, hv.mono (by omega)⟩
    · rw [if_neg d]
      rw [k60] at d
      rw [oS0 ok a hs', zob1, zadd, if_pos (by rw [zlt (by omega) (by omega)]; omega)]
      exact ⟨v, rfl, hv.mono (by omega)⟩
  · have w := hv.w (b' := b + 1) (c := c') (by omega) ⟨_, _, _, _, _, _, _, _, _, _, _, _, _, _, by omega, a'⟩
    have a2 : yC (n + m) S' W H T C P O R Y h r (hs - 5 * m) (sn + 5 * m) (yW v c').1 := a'
    rw [e, zob2, if_neg (zn2 (by omega)), if_neg (zn3 (by omega)), if_pos rfl, oC1 w.ok a2, zob1, if_pos (nI_add n m).symm, oC8 w.ok a2, zob1, if_pos (by rw [k5, zsub (by omega)]), oS1 w.ok a2 hs', zob1, z1, if_pos (nI_add _ _).symm]
    exact ⟨_, rfl, w⟩
theorem yA_borrow (hZ : 35000 < Z) (hv : yV b v) (a : yC n S W H T C P O R Y h r hs sn v.1) (hb : h ≤ b) (hb30 : b < 30) {s k : Nat} (hs' : s < 8) (hk : k < 12) : ∃ v1 : OV, ((ob1 (m_stand Z v (nI s) 3) (fun (b278 : Int32) => (ob1 (m_person Z v (nI k) 0) (fun (b279 : Int32) => (ob1 (if b278 = (-9) then (some 0) else (if 9 < b279 then (ob1 (m_person Z v (nI k) 1) (fun (b301 : Int32) => (if b301 = (-9) then (some 1) else (some 0)))) else (some 0))) (fun (x285 : Int32) => (ob2 (m_borrow Z v (nI k) (nI s)) (fun (b287 : Int32) (w288 : OV) => (if x285 = 0 then (if b287 = (-2) then (ob1 (m_count Z w288 8) (fun (b291 : Int32) => (if b291 = (nI hs) then (some (1, w288)) else (some (0, w288))))) else (some (0, w288))) else (if b287 = b278 then (ob1 (m_person Z w288 (nI k) 1) (fun (b294 : Int32) => (if b294 = b278 then (ob1 (m_person Z w288 (nI k) 0) (fun (b296 : Int32) => (if b296 = (b279 - 10) then (ob1 (m_count Z w288 8) (fun (b298 : Int32) => (if b298 = ((nI hs) + 10) then (some (1, w288)) else (some (0, w288))))) else (some (0, w288))))) else (some (0, w288))))) else (some (0, w288)))))))))))) : Option (Int32 × OV)) = some (1, v1) ∧ yV (b + 1) v1 := by
  have ok := hv.ok
  have hn := a.1.1
  have hh := yhs a
  have hC := (a.2.1.2.2.1 k hk).2.2
  have k9 : ((9 : Int32) < nI (C k)) = (9 < C k) := zlt (a := 9) (by omega) (by omega)
  rcases yBorrow (Z := Z) (by omega) ok a hk hs' with ⟨c1, e⟩ | ⟨u, c1, c2, c3, hu, c', e, a'⟩
  · have hx : (if zev (-9) (zbest S W s n) = (-9 : Int32) then (some (0 : Int32)) else (if (9 : Int32) < nI (C k) then (ob1 (m_person Z v (nI k) 1) (fun (b301 : Int32) => (if b301 = (-9) then (some 1) else (some 0)))) else (some 0))) = some 0 := by
      cases hbst : zbest S W s n with
      | none => rw [if_pos zev0]
      | some u =>
        have hu := (zam_ok hbst).1
        have e9 : ¬ zev (-9) (some u) = (-9 : Int32) := fun q => by rw [show zev (-9) (some u) = nI u from rfl, zn9 (by omega)] at q; exact q
        rw [if_neg e9]
        simp only [k9]
        by_cases d : 9 < C k
        · rw [if_pos d, oP1 (by omega) ok a hk, zob1]
          cases hH : H k with
          | none => exact absurd ⟨hH, by omega, by rw [hbst]; simp⟩ c1
          | some x =>
            have hx := ((a.2.1.1 k hk x).1 hH).1
            have e8 : ¬ zev (-9) (some x) = (-9 : Int32) := fun q => by rw [show zev (-9) (some x) = nI x from rfl, zn9 (by omega)] at q; exact q
            rw [if_neg e8]
        · rw [if_neg d]
    rw [oS3 (by omega) ok a hs', zob1, oP0 (by omega) ok a hk, zob1, hx, zob1, e, zob2, if_pos rfl, if_pos rfl, oC8 ok a, zob1, if_pos rfl]
    exact ⟨v, rfl, hv.mono (by omega)⟩
  · have w := hv.w (b' := b + 1) (c := c') (by omega) ⟨_, _, _, _, _, _, _, _, _, _, _, _, _, _, by omega, a'⟩
    have a2 : yC n (zup S u (8 + k)) W (zuH H k (some u)) T (zup C k (C k - 10)) P O R (zup Y u (Y u + 1)) h r (hs + 10) sn (yW v c').1 := a'
    have hx : (if zev (-9) (zbest S W s n) = (-9 : Int32) then (some (0 : Int32)) else (if (9 : Int32) < nI (C k) then (ob1 (m_person Z v (nI k) 1) (fun (b301 : Int32) => (if b301 = (-9) then (some 1) else (some 0)))) else (some 0))) = some 1 := by
      have e9 : ¬ zev (-9) (some u) = (-9 : Int32) := fun q => by rw [show zev (-9) (some u) = nI u from rfl, zn9 (by omega)] at q; exact q
      rw [c3, if_neg e9]
      simp only [k9]
      rw [if_pos (show 9 < C k by omega), oP1 (by omega) ok a hk, zob1, c1, if_pos zev0]
    have p1 := oP1 (Z := Z) (by omega) w.ok a2 hk
    rw [zuH_s rfl] at p1
    have p0 := oP0 (Z := Z) (by omega) w.ok a2 hk
    rw [zup_s rfl] at p0
    have p1' : m_person Z (yW v c') (nI k) 1 = some (nI u) := p1
    have ez : zev (-9) (some u) = nI u := rfl
    rw [oS3 (by omega) ok a hs', zob1, oP0 (by omega) ok a hk, zob1, hx, zob1, e, zob2, if_neg (by decide), c3, ez, if_pos rfl, p1', zob1, if_pos rfl, p0, zob1, if_pos (by rw [zl10, zsub c2]), oC8 w.ok a2, zob1, if_pos (show nI (hs + 10) = nI hs + 10 from (nI_add hs 10).symm)]
    exact ⟨_, rfl, w⟩
theorem yA_bring (hZ : 35000 < Z) (hv : yV b v) (a : yC n S W H T C P O R Y h r hs sn v.1) (hb : h ≤ b) (hb30 : b < 30) {s k e : Nat} (hs' : s < 8) (hk : k < 12) (he : e < 3) : ∃ v1 : OV, ((ob1 (m_person Z v (nI k) 1) (fun (b251 : Int32) => (ob1 (m_feeIn Z v (nI k) 0 0) (fun (b252 : Int32) => (ob2 (m_bringBack Z v (nI k) (nI s)) (fun (b253 : Int32) (w254 : OV) => (if b251 = (-9) then (if b253 = (-2) then (if b252 = (-2) then (some (1, w254)) else (some (0, w254))) else (some (0, w254))) else (if b253 = (-3) then (ob1 (m_stand Z w254 (nI s) 0) (fun (b274 : Int32) => (if (nI (zc S s n)) < b274 then (some (0, w254)) else (some (1, w254))))) else (if b253 = b252 then (ob1 (m_person Z w254 (nI k) 4) (fun (b258 : Int32) => (if b258 = (nI s) then (ob1 (m_umbrella w254 b251 0) (fun (b260 : Int32) => (if b260 = 0 then (ob1 (m_umbrella w254 b251 1) (fun (b262 : Int32) => (if b262 = (nI s) then (ob1 (m_count Z w254 8) (fun (b264 : Int32) => (if b264 = (((nI hs) - 10) + b252) then (if 0 < (nI e) then (some (1, w254)) else (ob2 (m_undo w254) (fun (b267 : Int32) (w268 : OV) => (if b267 < 0 then (some (0, w268)) else (ob1 (m_person Z w268 (nI k) 1) (fun (b270 : Int32) => (if b270 = b251 then (ob1 (m_count Z w268 8) (fun (b272 : Int32) => (if b272 = (nI hs) then (some (1, w268)) else (some (0, w268))))) else (some (0, w268))))))))) else (some (0, w254))))) else (some (0, w254))))) else (some (0, w254))))) else (some (0, w254))))) else (some (0, w254))))))))))) : Option (Int32 × OV)) = some (1, v1) ∧ yV (b + 1) v1 := by
  have ok := hv.ok
  have hn := a.1.1
  have hh := yhs a
  have hR := a.2.2.1 s hs'
  have hcl := zc_le S s n
  have f0 : m_feeIn Z v (nI k) 0 0 = some (yfee W r (T k) 0 0 (H k)) := oF (by omega) ok a hk (m := 0) (rn := 0) (by omega) (by omega)
  rcases yBring (Z := Z) (by omega) ok a hk hs' with ⟨c1, e1⟩ | ⟨u, c1, hu, ⟨c2, e1⟩ | ⟨c2, f, c', hf, hf10, hs10, e1, a'⟩⟩
  · rw [oP1 (by omega) ok a hk, zob1, f0, zob1, e1, zob2, c1, if_pos zev0, if_pos rfl, if_pos yfee0]
    exact ⟨v, rfl, hv.mono (by omega)⟩
  · have e9 : ¬ zev (-9) (some u) = (-9 : Int32) := fun q => by rw [show zev (-9) (some u) = nI u from rfl, zn9 (by omega)] at q; exact q
    rw [oP1 (by omega) ok a hk, zob1, f0, zob1, e1, zob2, c1, if_neg e9, if_pos rfl, oS0 ok a hs', zob1, if_neg (by rw [zlt (by omega) (by omega)]; omega)]
    exact ⟨v, rfl, hv.mono (by omega)⟩
  · have hrc : yR b c' := ⟨_, _, _, _, _, _, _, _, _, _, _, _, _, _, hb, a'⟩
    have w := hv.w (b' := b) (c := c') (by omega) hrc
    have a2 : yC n (zup S u s) W (zuH H k none) (zup T k 0) (zup C k (C k + (10 - f))) (zup P k (P k + f)) (zup O k s) R Y h r (hs - (10 - f)) sn (yW v c').1 := a'
    have e9 : ¬ zev (-9) (some u) = (-9 : Int32) := fun q => by rw [show zev (-9) (some u) = nI u from rfl, zn9 (by omega)] at q; exact q
    have ez : zev (-9) (some u) = nI u := rfl
    have ef : yfee W r (T k) 0 0 (some u) = nI f := by rw [hf]; rfl
    have u0 := oU0 w.ok a2 hu
    rw [zup_s rfl, yz0 hs'] at u0
    have u1 := oU1 w.ok a2 hu
    rw [zup_s rfl, show zwI s = nI s by unfold zwI zwh; rw [if_pos (by omega), if_pos hs']] at u1
    have p4 := oP4 (Z := Z) (by omega) w.ok a2 hk
    rw [zup_s rfl] at p4
    have k8 : nI (hs - (10 - f)) = nI hs - 10 + nI f := by
      rw [zl10, zsub hs10, zadd]; congr 1; omega
    rw [oP1 (by omega) ok a hk, zob1, f0, zob1, e1, zob2, c1, if_neg e9, if_neg (zn3 (by omega)), ef, if_pos rfl, p4, zob1, if_pos rfl, ez, u0, zob1, if_pos (show nI 0 = 0 from rfl), u1, zob1, if_pos rfl, oC8 w.ok a2, zob1, if_pos k8]
    by_cases d : 0 < nI e
    · rw [if_pos d]; exact ⟨_, rfl, w.mono (by omega)⟩
    · obtain ⟨z, v2, m1, m2, m3, m4, -⟩ := yUndoW hv hrc
      have a3 : yC n S W H T C P O R Y h r hs sn v2.1 := by rw [m3]; exact a
      have p1 := oP1 (Z := Z) (by omega) m4.ok a3 hk
      rw [c1] at p1
      have p1' : m_person Z v2 (nI k) 1 = some (nI u) := p1
      rw [if_neg d, m1, zob2, if_neg (nI_pos (by omega)), p1', zob1, if_pos rfl, oC8 m4.ok a3, zob1, if_pos rfl]
      exact ⟨_, rfl, m4.mono (by omega)⟩
theorem yA_hour (hZ : 35000 < Z) (hv : yV b v) (a : yC n S W H T C P O R Y h r hs sn v.1) (hb : h ≤ b) (hb30 : b < 30) {rn gs : Nat} (hr : rn ≤ 9) (hg : gs ≤ 3) : ∃ v1 : OV, ((ob2 (b01 (f_L_hour Z v (nI rn) (nI gs))) (fun (b249 : Int32) (w250 : OV) => (some (b249, w250)))) : Option (Int32 × OV)) = some (1, v1) ∧ yV (b + 1) v1 := by
  have ok := hv.ok
  obtain ⟨c', S', W', H', T', C', Y', hs', l1, l2⟩ := yHour (Z := Z) (by omega) ok a hv (by omega) hr hg
  have w := hv.w (b' := b + 1) (c := c') (by omega) ⟨_, _, _, _, _, _, _, _, _, _, _, _, _, _, by omega, l2⟩
  rw [l1, b01_in, zob2]
  exact ⟨_, rfl, w⟩
theorem yA_set (hZ : 35000 < Z) (hv : yV b v) (a : yC n S W H T C P O R Y h r hs sn v.1) (hb : h ≤ b) (hb30 : b < 30) {s m e : Nat} (hs' : s < 8) (hm1 : 1 ≤ m) (hm : m ≤ 20) (he : e ≤ 5) : ∃ v1 : OV, ((ob1 (m_stand Z v (nI s) 0) (fun (b231 : Int32) => (ob1 (m_count Z v 14) (fun (b232 : Int32) => (ob2 (m_set v (nI s) (nI m)) (fun (b233 : Int32) (w234 : OV) => (pl1 (if (nI m) < (nI (zc S s n)) then (-2) else b231) (fun (x236 : Int32) => (if b233 = x236 then (ob1 (m_stand Z w234 (nI s) 0) (fun (b239 : Int32) => (pl1 (if (nI m) < (nI (zc S s n)) then b231 else (nI m)) (fun (x241 : Int32) => (if b239 = x241 then (ob2 (m_set w234 8 (nI e)) (fun (b244 : Int32) (w245 : OV) => (if b244 = b232 then (ob1 (m_count Z w245 14) (fun (b247 : Int32) => (if b247 = (nI e) then (some (1, w245)) else (some (0, w245))))) else (some (0, w245))))) else (some (0, w234))))))) else (some (0, w234))))))))))) : Option (Int32 × OV)) = some (1, v1) ∧ yV (b + 1) v1 := by
  have ok := hv.ok
  have hn := a.1.1
  have hcl := zc_le S s n
  have k1 : (nI m < nI (zc S s n)) = (m < zc S s n) := zlt (by omega) (by omega)
  rcases ySetR ok a hs' hm1 hm with ⟨c1, e1⟩ | ⟨c1, c', e1, a'⟩
  · obtain ⟨c2, e2, a2⟩ := ySetQ ok a he
    have w := hv.w (b' := b) (c := c2) (by omega) ⟨_, _, _, _, _, _, _, _, _, _, _, _, _, _, hb, a2⟩
    have a3 : yC n S W H T C P O R Y h e hs sn (yW v c2).1 := a2
    rw [oS0 ok a hs', zob1, oC14 ok a, zob1, e1, zob2]
    simp only [k1, c1, if_true, zpl1]
    rw [oS0 ok a hs', zob1, if_pos rfl, e2, zob2, if_pos rfl, oC14 w.ok a3, zob1, if_pos rfl]
    exact ⟨_, rfl, w.mono (by omega)⟩
  · have w := hv.w (b' := b) (c := c') (by omega) ⟨_, _, _, _, _, _, _, _, _, _, _, _, _, _, hb, a'⟩
    have a1 : yC n S W H T C P O (zup R s m) Y h r hs sn (yW v c').1 := a'
    obtain ⟨c2, e2, a2⟩ := ySetQ w.ok a1 he
    have w2 := w.w (b' := b) (c := c2) (by omega) ⟨_, _, _, _, _, _, _, _, _, _, _, _, _, _, hb, a2⟩
    have a3 : yC n S W H T C P O (zup R s m) Y h e hs sn (yW (yW v c') c2).1 := a2
    have s0 := oS0 (Z := Z) w.ok a1 hs'
    rw [zup_s rfl] at s0
    have c1' : ¬ m < zc S s n := by omega
    rw [oS0 ok a hs', zob1, oC14 ok a, zob1, e1, zob2]
    simp only [k1, c1', if_false, if_true, zpl1]
    rw [s0, zob1, if_pos rfl, e2, zob2, if_pos rfl, oC14 w2.ok a3, zob1, if_pos rfl]
    exact ⟨_, rfl, w2.mono (by omega)⟩
end ac
