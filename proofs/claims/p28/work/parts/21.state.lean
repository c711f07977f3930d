abbrev CV : Type := (Nat → Int32) × (Nat → Int32) × (Nat → Int32) × (Nat → Int32) × Int32 × (Nat → Int32) × (Nat → Int32) × (Nat → Int32) × (Nat → Int32) × (Nat → Int32) × Int32 × Int32 × Int32 × Int32 × Int32 × Int32
def bC (cI : ClassId) (a : Nat → Nat) (c : CV) : va_W := wX0 cI (a 0) (a 1) (a 2) (a 3) (a 4) (a 5) (a 6) (a 7) (a 8) (a 9) (a 10) (a 11) (a 12) (a 13) (a 14) (a 15) (a 16) (a 17) (a 18) (a 19) c.1 c.2.1 c.2.2.1 c.2.2.2.1 c.2.2.2.2.1 c.2.2.2.2.2.1 c.2.2.2.2.2.2.1 c.2.2.2.2.2.2.2.1 c.2.2.2.2.2.2.2.2.1 c.2.2.2.2.2.2.2.2.2.1 c.2.2.2.2.2.2.2.2.2.2.1 c.2.2.2.2.2.2.2.2.2.2.2.1 c.2.2.2.2.2.2.2.2.2.2.2.2.1 c.2.2.2.2.2.2.2.2.2.2.2.2.2.1 c.2.2.2.2.2.2.2.2.2.2.2.2.2.2.1 c.2.2.2.2.2.2.2.2.2.2.2.2.2.2.2
def bca (a : Nat → Nat) : List Nat := [a 0, a 1, a 2, a 3, a 4, a 5, a 6, a 7, a 8, a 9, a 10, a 11, a 12, a 13, a 14, a 15, a 16, a 17, a 18, a 19]
theorem bC_fst {cI : ClassId} {a : Nat → Nat} {c : CV} : (bC cI a c).map (·.1) = bca a := rfl
theorem bC_same {cI : ClassId} {a : Nat → Nat} {c c' : CV} : (bC cI a c).map (·.1) = (bC cI a c').map (·.1) := bC_fst.trans bC_fst.symm
theorem c1_same {h : Nat} {x y : va_E} : ([(h, x)] : va_W).map (·.1) = ([(h, y)] : va_W).map (·.1) := rfl
theorem wa_c {b b' : va_W} {r r' : List va_W} (h : b.map (·.1) = b'.map (·.1)) (hr : wa r = wa r') : wa (b :: r) = wa (b' :: r') := by unfold wa at hr ⊢; rw [List.map_cons, List.map_cons, h, hr]
theorem bz_n {v : Int32} (h : v = 0 ∨ v = 1) : narrow .boolean (.int v) = .int v := by rcases h with rfl | rfl <;> rfl
theorem bz_f {v : Int32} (h : v = 0 ∨ v = 1) : fits .boolean (.int v) = true := by rcases h with rfl | rfl <;> rfl
theorem cb_copyFrom (l : Launch) (D : va_G) (cI cC cR : ClassId) (a b : Nat → Nat) (c o : CV) : MEq l yX0_copyFrom cX0_copyFrom 2 none rm_X0_copyFrom D (TY cI cC cR) [.ref (a 0), .ref (b 0)] (wj [bC cI a c, bC cI b o]) (wj [bC cI a o, bC cI b o]) none :=
  c_X0_copyFrom l D cI cC cR (a 0) (a 1) (a 2) (a 3) (a 4) (a 5) (a 6) (a 7) (a 8) (a 9) (a 10) (a 11) (a 12) (a 13) (a 14) (a 15) (a 16) (a 17) (a 18) (a 19) (b 0) (b 1) (b 2) (b 3) (b 4) (b 5) (b 6) (b 7) (b 8) (b 9) (b 10) (b 11) (b 12) (b 13) (b 14) (b 15) (b 16) (b 17) (b 18) (b 19) c.1 c.2.1 c.2.2.1 c.2.2.2.1 c.2.2.2.2.1 c.2.2.2.2.2.1 c.2.2.2.2.2.2.1 c.2.2.2.2.2.2.2.1 c.2.2.2.2.2.2.2.2.1 c.2.2.2.2.2.2.2.2.2.1 c.2.2.2.2.2.2.2.2.2.2.1 c.2.2.2.2.2.2.2.2.2.2.2.1 c.2.2.2.2.2.2.2.2.2.2.2.2.1 c.2.2.2.2.2.2.2.2.2.2.2.2.2.1 c.2.2.2.2.2.2.2.2.2.2.2.2.2.2.1 c.2.2.2.2.2.2.2.2.2.2.2.2.2.2.2 o.1 o.2.1 o.2.2.1 o.2.2.2.1 o.2.2.2.2.1 o.2.2.2.2.2.1 o.2.2.2.2.2.2.1 o.2.2.2.2.2.2.2.1 o.2.2.2.2.2.2.2.2.1 o.2.2.2.2.2.2.2.2.2.1 o.2.2.2.2.2.2.2.2.2.2.1 o.2.2.2.2.2.2.2.2.2.2.2.1 o.2.2.2.2.2.2.2.2.2.2.2.2.1 o.2.2.2.2.2.2.2.2.2.2.2.2.2.1 o.2.2.2.2.2.2.2.2.2.2.2.2.2.2.1 o.2.2.2.2.2.2.2.2.2.2.2.2.2.2.2 o.1 o.2.1 o.2.2.1 o.2.2.2.1 o.2.2.2.2.1 o.2.2.2.2.2.1 o.2.2.2.2.2.2.1 o.2.2.2.2.2.2.2.1 o.2.2.2.2.2.2.2.2.1 o.2.2.2.2.2.2.2.2.2.1 o.2.2.2.2.2.2.2.2.2.2.1 o.2.2.2.2.2.2.2.2.2.2.2.1 o.2.2.2.2.2.2.2.2.2.2.2.2.1 o.2.2.2.2.2.2.2.2.2.2.2.2.2.1 o.2.2.2.2.2.2.2.2.2.2.2.2.2.2.1 o.2.2.2.2.2.2.2.2.2.2.2.2.2.2.2 rfl
-- X3_isKept
def f_X3_isKept (k0 : Int32) (k1 : Int32) (p1 : Int32) : Int32 :=
  (if p1 = 0 then k0 else k1)
abbrev rm_X3_isKept : Room := { frames := 0, cells := 0, slots := 0, locals := 0 }
set_option maxHeartbeats 4000000 in
set_option maxRecDepth 100000 in
theorem c_X3_isKept (l : Launch) (D : va_G) (cI cC cR : ClassId) (h0 : Nat) (a b d : Nat → Nat) (c : CV) (s0 : CV) (s1 : CV) (k0 : Int32) (k1 : Int32) (p1 : Int32) (hb_k0 : k0 = 0 ∨ k0 = 1) (hb_k1 : k1 = 0 ∨ k1 = 1) (r : Int32) (hF : f_X3_isKept k0 k1 p1 = r) : MPi l yX3_isKept cX3_isKept 2 (some .boolean) rm_X3_isKept D (TY cI cC cR) [.ref h0, .int p1] (wj [[(h0, .inr (3, [.ref (a 0), .ref (b 0), .ref (d 0), .int k0, .int k1]))], bC cI a c, bC cI b s0, bC cI d s1]) (.int r) := by
  refine me_p pn_X3 (Nat.le_of_ble_eq_true rfl) rfl (fun Γ X hret => ?_)
  unfold f_X3_isKept at hF
  refine kw_iload_n X dX3_isKept_0 rfl 1 rfl ?_
  refine kw_if_ne X 11 dX3_isKept_1 (by decide) (fun q1 => ?_) (fun q1 => ?_)
  · replace hF := (if_neg q1).symm.trans hF
    refine kw_aload_n X dX3_isKept_11 rfl 0 rfl ?_
    refine kb_get X inX3 0 0 rfl rfl rfl 4 (by decide) rfl gw_149 rfl dX3_isKept_12 ?_
    obtain rfl := ti1 hF
    exact hret _ _ _ (bz_n hb_k1) dX3_isKept_15
  · replace hF := (if_pos q1).symm.trans hF
    refine kw_aload_n X dX3_isKept_4 rfl 0 rfl ?_
    refine kb_get X inX3 0 0 rfl rfl rfl 3 (by decide) rfl gw_148 rfl dX3_isKept_5 ?_
    refine kw_goto X 15 dX3_isKept_8 (by decide) ?_
    obtain rfl := ti1 hF
    exact hret _ _ _ (bz_n hb_k0) dX3_isKept_15
-- X3_numberKept
def f_X3_numberKept (k0 : Int32) (k1 : Int32) : Int32 :=
  (pl1 (if k0 = 0 then 0 else 1) (fun (x2 : Int32) => (pl1 (if k1 = 0 then 0 else 1) (fun (x5 : Int32) => (x2 + x5)))))
abbrev rm_X3_numberKept : Room := { frames := 0, cells := 0, slots := 0, locals := 0 }
set_option maxHeartbeats 4000000 in
set_option maxRecDepth 100000 in
theorem c_X3_numberKept (l : Launch) (D : va_G) (cI cC cR : ClassId) (h0 : Nat) (a b d : Nat → Nat) (c : CV) (s0 : CV) (s1 : CV) (k0 : Int32) (k1 : Int32) (r : Int32) (hF : f_X3_numberKept k0 k1 = r) : MPi l yX3_numberKept cX3_numberKept 1 (some .int) rm_X3_numberKept D (TY cI cC cR) [.ref h0] (wj [[(h0, .inr (3, [.ref (a 0), .ref (b 0), .ref (d 0), .int k0, .int k1]))], bC cI a c, bC cI b s0, bC cI d s1]) (.int r) := by
  refine me_p pn_X3 (Nat.le_of_ble_eq_true rfl) rfl (fun Γ X hret => ?_)
  unfold f_X3_numberKept at hF
  refine kw_aload_n X dX3_numberKept_0 rfl 0 rfl ?_
  refine kb_get X inX3 0 0 rfl rfl rfl 3 (by decide) rfl gw_148 rfl dX3_numberKept_1 ?_
  obtain ⟨x2, hx3, hF⟩ := pl1_ex hF
  have J : KW Γ 0 0 (wj [[(h0, .inr (3, [.ref (a 0), .ref (b 0), .ref (d 0), .int k0, .int k1]))], bC cI a c, bC cI b s0, bC cI d s1]) [(0, .ref h0)] 12 [.int x2] := by
    refine kw_aload_n X dX3_numberKept_12 rfl 0 rfl ?_
    refine kb_get X inX3 0 0 rfl rfl rfl 4 (by decide) rfl gw_149 rfl dX3_numberKept_13 ?_
    obtain ⟨x5, hx6, hF⟩ := pl1_ex hF
    have J : KW Γ 0 0 (wj [[(h0, .inr (3, [.ref (a 0), .ref (b 0), .ref (d 0), .int k0, .int k1]))], bC cI a c, bC cI b s0, bC cI d s1]) [] 24 [.int x5, .int x2] := by
      refine kw_iadd X dX3_numberKept_24 ?_
      obtain rfl := ti1 hF
      exact hret _ _ _ (vp_nar_int _) dX3_numberKept_25
    replace hF := hx6
    refine kw_if_eq X 23 dX3_numberKept_16 (by decide) (fun q4 => ?_) (fun q4 => ?_)
    · replace hF := (if_pos q4).symm.trans hF
      refine kw_iconst X dX3_numberKept_23 ci_0 ?_
      refine kw_loc (lo' := []) [] rfl ?_
      obtain rfl := ti1 hF
      exact J
    · replace hF := (if_neg q4).symm.trans hF
      refine kw_iconst X dX3_numberKept_19 ci_1 ?_
      refine kw_goto X 24 dX3_numberKept_20 (by decide) ?_
      refine kw_loc (lo' := []) [] rfl ?_
      obtain rfl := ti1 hF
      exact J
  replace hF := hx3
  refine kw_if_eq X 11 dX3_numberKept_4 (by decide) (fun q1 => ?_) (fun q1 => ?_)
  · replace hF := (if_pos q1).symm.trans hF
    refine kw_iconst X dX3_numberKept_11 ci_0 ?_
    obtain rfl := ti1 hF
    exact J
  · replace hF := (if_neg q1).symm.trans hF
    refine kw_iconst X dX3_numberKept_7 ci_1 ?_
    refine kw_goto X 12 dX3_numberKept_8 (by decide) ?_
    obtain rfl := ti1 hF
    exact J
-- X3_snapshot_v0
abbrev rm_X3_snapshot_v0 : Room := { frames := 0, cells := 0, slots := 0, locals := 0 }
set_option maxHeartbeats 4000000 in
set_option maxRecDepth 100000 in
theorem c_X3_snapshot_v0 (l : Launch) (D : va_G) (cI cC cR : ClassId) (h0 : Nat) (a b d : Nat → Nat) (c : CV) (s0 : CV) (s1 : CV) (k0 : Int32) (k1 : Int32) (p1 : Int32) (hs : p1 = 0) : MPi l yX3_snapshot cX3_snapshot 2 (some (.object "RibbedLoans$City")) rm_X3_snapshot_v0 D (TY cI cC cR) [.ref h0, .int p1] (wj [[(h0, .inr (3, [.ref (a 0), .ref (b 0), .ref (d 0), .int k0, .int k1]))], bC cI a c, bC cI b s0, bC cI d s1]) (.ref (b 0)) := by
  refine me_pa pn_X3 (Nat.le_of_ble_eq_true rfl) rfl (fun Γ X hret => ?_)
  refine kw_iload_n X dX3_snapshot_0 rfl 1 rfl ?_
  refine kw_if_ne X 11 dX3_snapshot_1 (by decide) (fun q1 => ?_) (fun q1 => ?_)
  · exact absurd hs q1
  · refine kw_aload_n X dX3_snapshot_4 rfl 0 rfl ?_
    refine kb_get X inX3 0 0 rfl rfl rfl 1 (by decide) rfl gw_146 rfl dX3_snapshot_5 ?_
    refine kw_goto X 15 dX3_snapshot_8 (by decide) ?_
    exact hret _ _ _ dX3_snapshot_15
-- X3_snapshot_v1
abbrev rm_X3_snapshot_v1 : Room := { frames := 0, cells := 0, slots := 0, locals := 0 }
set_option maxHeartbeats 4000000 in
set_option maxRecDepth 100000 in
theorem c_X3_snapshot_v1 (l : Launch) (D : va_G) (cI cC cR : ClassId) (h0 : Nat) (a b d : Nat → Nat) (c : CV) (s0 : CV) (s1 : CV) (k0 : Int32) (k1 : Int32) (p1 : Int32) (hs : ¬ p1 = 0) : MPi l yX3_snapshot cX3_snapshot 2 (some (.object "RibbedLoans$City")) rm_X3_snapshot_v1 D (TY cI cC cR) [.ref h0, .int p1] (wj [[(h0, .inr (3, [.ref (a 0), .ref (b 0), .ref (d 0), .int k0, .int k1]))], bC cI a c, bC cI b s0, bC cI d s1]) (.ref (d 0)) := by
  refine me_pa pn_X3 (Nat.le_of_ble_eq_true rfl) rfl (fun Γ X hret => ?_)
  refine kw_iload_n X dX3_snapshot_0 rfl 1 rfl ?_
  refine kw_if_ne X 11 dX3_snapshot_1 (by decide) (fun q1 => ?_) (fun q1 => ?_)
  · refine kw_aload_n X dX3_snapshot_11 rfl 0 rfl ?_
    refine kb_get X inX3 0 0 rfl rfl rfl 2 (by decide) rfl gw_147 rfl dX3_snapshot_12 ?_
    exact hret _ _ _ dX3_snapshot_15
  · exact absurd q1 hs
-- X3_keep_v0
def f_X3_keep_v0 (c : CV) (p1 : Int32) : CV × Int32 :=
  (c, 1)
abbrev rm_X3_keep_v0 : Room := { frames := 4, cells := 0, slots := 0, locals := 89 }
set_option maxHeartbeats 4000000 in
set_option maxRecDepth 100000 in
theorem c_X3_keep_v0 (l : Launch) (D : va_G) (cI cC cR : ClassId) (h0 : Nat) (a b d : Nat → Nat) (c : CV) (s0 : CV) (s1 : CV) (k0 : Int32) (k1 : Int32) (p1 : Int32) (hs : p1 = 0) (s0' : CV) (k0' : Int32) (hF : f_X3_keep_v0 c p1 = (s0', k0')) : MEq l yX3_keep cX3_keep 2 none rm_X3_keep_v0 D (TY cI cC cR) [.ref h0, .int p1] (wj [[(h0, .inr (3, [.ref (a 0), .ref (b 0), .ref (d 0), .int k0, .int k1]))], bC cI a c, bC cI b s0, bC cI d s1]) (wj [[(h0, .inr (3, [.ref (a 0), .ref (b 0), .ref (d 0), .int k0', .int k1]))], bC cI a c, bC cI b s0', bC cI d s1]) none := by
  refine me_v pn_X3 (Nat.le_of_ble_eq_true rfl) rfl (fun Γ X E hret => ?_)
  unfold f_X3_keep_v0 at hF
  refine kw_aload_n X dX3_keep_0 rfl 0 rfl ?_
  refine kw_iload_n X dX3_keep_1 rfl 1 rfl ?_
  refine kb_mp X (r := .ref (b 0)) (As := [.int p1]) (st := []) (c_X3_snapshot_v0 l D cI cC cR h0 a b d c s0 s1 k0 k1 p1 hs ) vl_X3_33 yv_X3_snapshot ⟨Nat.le_of_ble_eq_true rfl, Nat.le_of_ble_eq_true rfl⟩ ⟨rfl, rfl⟩ ⟨Nat.zero_le _, Nat.zero_le _⟩ 0 0 rfl rfl rfl [0, 1, 2, 3] rfl rfl rfl rfl (Nat.le_of_ble_eq_true rfl) dX3_keep_2 ?_
  refine kw_aload_n X dX3_keep_5 rfl 0 rfl ?_
  refine kb_get X inX3 0 0 rfl rfl rfl 0 (by decide) rfl gw_144 rfl dX3_keep_6 ?_
  refine kb_mev X (As := [.ref (a 0)]) (st := []) (bs' := [[(h0, .inr (3, [.ref (a 0), .ref (b 0), .ref (d 0), .int k0, .int k1]))], bC cI a c, bC cI b c, bC cI d s1]) E (cb_copyFrom l D cI cC cR b a s0 c) vl_X3_22 yv_X0_copyFrom ⟨Nat.le_of_ble_eq_true rfl, Nat.le_of_ble_eq_true rfl⟩ ⟨rfl, rfl⟩ ⟨Nat.zero_le _, Nat.zero_le _⟩ 2 0 rfl rfl rfl [2, 1] rfl rfl rfl rfl (Nat.le_of_ble_eq_true rfl) dX3_keep_9 (wa_c bC_same (wa_c rfl rfl)) rfl ?_
  refine kw_iload_n X dX3_keep_12 rfl 1 rfl ?_
  refine kw_if_ne X 24 dX3_keep_13 (by decide) (fun q1 => ?_) (fun q1 => ?_)
  · exact absurd hs q1
  · refine kw_aload_n X dX3_keep_16 rfl 0 rfl ?_
    refine kw_iconst X dX3_keep_17 ci_1 ?_
    refine kb_put X E inX3 tyX3 tyX3_ok nmX3 0 0 rfl rfl rfl 3 (by decide) rfl gw_148 rfl pfd_Z rfl rfl (Nat.le_of_ble_eq_true rfl) (bs' := [[(h0, .inr (3, [.ref (a 0), .ref (b 0), .ref (d 0), .int 1, .int k1]))], bC cI a c, bC cI b c, bC cI d s1]) rfl dX3_keep_18 ?_
    refine kw_goto X 29 dX3_keep_21 (by decide) ?_
    obtain ⟨rfl, rfl⟩ := ti2 hF
    exact hret _ _ dX3_keep_29
-- X3_keep_v1
def f_X3_keep_v1 (c : CV) (p1 : Int32) : CV × Int32 :=
  (c, 1)
abbrev rm_X3_keep_v1 : Room := { frames := 4, cells := 0, slots := 0, locals := 89 }
set_option maxHeartbeats 4000000 in
set_option maxRecDepth 100000 in
theorem c_X3_keep_v1 (l : Launch) (D : va_G) (cI cC cR : ClassId) (h0 : Nat) (a b d : Nat → Nat) (c : CV) (s0 : CV) (s1 : CV) (k0 : Int32) (k1 : Int32) (p1 : Int32) (hs : ¬ p1 = 0) (s1' : CV) (k1' : Int32) (hF : f_X3_keep_v1 c p1 = (s1', k1')) : MEq l yX3_keep cX3_keep 2 none rm_X3_keep_v1 D (TY cI cC cR) [.ref h0, .int p1] (wj [[(h0, .inr (3, [.ref (a 0), .ref (b 0), .ref (d 0), .int k0, .int k1]))], bC cI a c, bC cI b s0, bC cI d s1]) (wj [[(h0, .inr (3, [.ref (a 0), .ref (b 0), .ref (d 0), .int k0, .int k1']))], bC cI a c, bC cI b s0, bC cI d s1']) none := by
  refine me_v pn_X3 (Nat.le_of_ble_eq_true rfl) rfl (fun Γ X E hret => ?_)
  unfold f_X3_keep_v1 at hF
  refine kw_aload_n X dX3_keep_0 rfl 0 rfl ?_
  refine kw_iload_n X dX3_keep_1 rfl 1 rfl ?_
  refine kb_mp X (r := .ref (d 0)) (As := [.int p1]) (st := []) (c_X3_snapshot_v1 l D cI cC cR h0 a b d c s0 s1 k0 k1 p1 hs ) vl_X3_33 yv_X3_snapshot ⟨Nat.le_of_ble_eq_true rfl, Nat.le_of_ble_eq_true rfl⟩ ⟨rfl, rfl⟩ ⟨Nat.zero_le _, Nat.zero_le _⟩ 0 0 rfl rfl rfl [0, 1, 2, 3] rfl rfl rfl rfl (Nat.le_of_ble_eq_true rfl) dX3_keep_2 ?_
  refine kw_aload_n X dX3_keep_5 rfl 0 rfl ?_
  refine kb_get X inX3 0 0 rfl rfl rfl 0 (by decide) rfl gw_144 rfl dX3_keep_6 ?_
  refine kb_mev X (As := [.ref (a 0)]) (st := []) (bs' := [[(h0, .inr (3, [.ref (a 0), .ref (b 0), .ref (d 0), .int k0, .int k1]))], bC cI a c, bC cI b s0, bC cI d c]) E (cb_copyFrom l D cI cC cR d a s1 c) vl_X3_22 yv_X0_copyFrom ⟨Nat.le_of_ble_eq_true rfl, Nat.le_of_ble_eq_true rfl⟩ ⟨rfl, rfl⟩ ⟨Nat.zero_le _, Nat.zero_le _⟩ 3 0 rfl rfl rfl [3, 1] rfl rfl rfl rfl (Nat.le_of_ble_eq_true rfl) dX3_keep_9 (wa_c bC_same (wa_c rfl rfl)) rfl ?_
  refine kw_iload_n X dX3_keep_12 rfl 1 rfl ?_
  refine kw_if_ne X 24 dX3_keep_13 (by decide) (fun q1 => ?_) (fun q1 => ?_)
  · refine kw_aload_n X dX3_keep_24 rfl 0 rfl ?_
    refine kw_iconst X dX3_keep_25 ci_1 ?_
    refine kb_put X E inX3 tyX3 tyX3_ok nmX3 0 0 rfl rfl rfl 4 (by decide) rfl gw_149 rfl pfd_Z rfl rfl (Nat.le_of_ble_eq_true rfl) (bs' := [[(h0, .inr (3, [.ref (a 0), .ref (b 0), .ref (d 0), .int k0, .int 1]))], bC cI a c, bC cI b s0, bC cI d c]) rfl dX3_keep_26 ?_
    obtain ⟨rfl, rfl⟩ := ti2 hF
    exact hret _ _ dX3_keep_29
  · exact absurd q1 hs
-- X3_bringUp_v0
def f_X3_bringUp_v0 (s0 : CV) (p1 : Int32) : CV :=
  s0
abbrev rm_X3_bringUp_v0 : Room := { frames := 4, cells := 0, slots := 0, locals := 89 }
set_option maxHeartbeats 4000000 in
set_option maxRecDepth 100000 in
theorem c_X3_bringUp_v0 (l : Launch) (D : va_G) (cI cC cR : ClassId) (h0 : Nat) (a b d : Nat → Nat) (c : CV) (s0 : CV) (s1 : CV) (k0 : Int32) (k1 : Int32) (p1 : Int32) (hs : p1 = 0) (c' : CV) (hF : f_X3_bringUp_v0 s0 p1 = c') : MEq l yX3_bringUp cX3_bringUp 2 none rm_X3_bringUp_v0 D (TY cI cC cR) [.ref h0, .int p1] (wj [[(h0, .inr (3, [.ref (a 0), .ref (b 0), .ref (d 0), .int k0, .int k1]))], bC cI a c, bC cI b s0, bC cI d s1]) (wj [[(h0, .inr (3, [.ref (a 0), .ref (b 0), .ref (d 0), .int k0, .int k1]))], bC cI a c', bC cI b s0, bC cI d s1]) none := by
  refine me_v pn_X3 (Nat.le_of_ble_eq_true rfl) rfl (fun Γ X E hret => ?_)
  unfold f_X3_bringUp_v0 at hF
  refine kw_aload_n X dX3_bringUp_0 rfl 0 rfl ?_
  refine kb_get X inX3 0 0 rfl rfl rfl 0 (by decide) rfl gw_144 rfl dX3_bringUp_1 ?_
  refine kw_aload_n X dX3_bringUp_4 rfl 0 rfl ?_
  refine kw_iload_n X dX3_bringUp_5 rfl 1 rfl ?_
  refine kb_mp X (r := .ref (b 0)) (As := [.int p1]) (st := [.ref (a 0)]) (c_X3_snapshot_v0 l D cI cC cR h0 a b d c s0 s1 k0 k1 p1 hs ) vl_X3_33 yv_X3_snapshot ⟨Nat.le_of_ble_eq_true rfl, Nat.le_of_ble_eq_true rfl⟩ ⟨rfl, rfl⟩ ⟨Nat.zero_le _, Nat.zero_le _⟩ 0 0 rfl rfl rfl [0, 1, 2, 3] rfl rfl rfl rfl (Nat.le_of_ble_eq_true rfl) dX3_bringUp_6 ?_
  refine kb_mev X (As := [.ref (b 0)]) (st := []) (bs' := [[(h0, .inr (3, [.ref (a 0), .ref (b 0), .ref (d 0), .int k0, .int k1]))], bC cI a s0, bC cI b s0, bC cI d s1]) E (cb_copyFrom l D cI cC cR a b c s0) vl_X3_22 yv_X0_copyFrom ⟨Nat.le_of_ble_eq_true rfl, Nat.le_of_ble_eq_true rfl⟩ ⟨rfl, rfl⟩ ⟨Nat.zero_le _, Nat.zero_le _⟩ 1 0 rfl rfl rfl [1, 2] rfl rfl rfl rfl (Nat.le_of_ble_eq_true rfl) dX3_bringUp_9 (wa_c bC_same (wa_c rfl rfl)) rfl ?_
  obtain rfl := ti1 hF
  exact hret _ _ dX3_bringUp_12
-- X3_bringUp_v1
def f_X3_bringUp_v1 (s1 : CV) (p1 : Int32) : CV :=
  s1
abbrev rm_X3_bringUp_v1 : Room := { frames := 4, cells := 0, slots := 0, locals := 89 }
set_option maxHeartbeats 4000000 in
set_option maxRecDepth 100000 in
theorem c_X3_bringUp_v1 (l : Launch) (D : va_G) (cI cC cR : ClassId) (h0 : Nat) (a b d : Nat → Nat) (c : CV) (s0 : CV) (s1 : CV) (k0 : Int32) (k1 : Int32) (p1 : Int32) (hs : ¬ p1 = 0) (c' : CV) (hF : f_X3_bringUp_v1 s1 p1 = c') : MEq l yX3_bringUp cX3_bringUp 2 none rm_X3_bringUp_v1 D (TY cI cC cR) [.ref h0, .int p1] (wj [[(h0, .inr (3, [.ref (a 0), .ref (b 0), .ref (d 0), .int k0, .int k1]))], bC cI a c, bC cI b s0, bC cI d s1]) (wj [[(h0, .inr (3, [.ref (a 0), .ref (b 0), .ref (d 0), .int k0, .int k1]))], bC cI a c', bC cI b s0, bC cI d s1]) none := by
  refine me_v pn_X3 (Nat.le_of_ble_eq_true rfl) rfl (fun Γ X E hret => ?_)
  unfold f_X3_bringUp_v1 at hF
  refine kw_aload_n X dX3_bringUp_0 rfl 0 rfl ?_
  refine kb_get X inX3 0 0 rfl rfl rfl 0 (by decide) rfl gw_144 rfl dX3_bringUp_1 ?_
  refine kw_aload_n X dX3_bringUp_4 rfl 0 rfl ?_
  refine kw_iload_n X dX3_bringUp_5 rfl 1 rfl ?_
  refine kb_mp X (r := .ref (d 0)) (As := [.int p1]) (st := [.ref (a 0)]) (c_X3_snapshot_v1 l D cI cC cR h0 a b d c s0 s1 k0 k1 p1 hs ) vl_X3_33 yv_X3_snapshot ⟨Nat.le_of_ble_eq_true rfl, Nat.le_of_ble_eq_true rfl⟩ ⟨rfl, rfl⟩ ⟨Nat.zero_le _, Nat.zero_le _⟩ 0 0 rfl rfl rfl [0, 1, 2, 3] rfl rfl rfl rfl (Nat.le_of_ble_eq_true rfl) dX3_bringUp_6 ?_
  refine kb_mev X (As := [.ref (d 0)]) (st := []) (bs' := [[(h0, .inr (3, [.ref (a 0), .ref (b 0), .ref (d 0), .int k0, .int k1]))], bC cI a s1, bC cI b s0, bC cI d s1]) E (cb_copyFrom l D cI cC cR a d c s1) vl_X3_22 yv_X0_copyFrom ⟨Nat.le_of_ble_eq_true rfl, Nat.le_of_ble_eq_true rfl⟩ ⟨rfl, rfl⟩ ⟨Nat.zero_le _, Nat.zero_le _⟩ 1 0 rfl rfl rfl [1, 3] rfl rfl rfl rfl (Nat.le_of_ble_eq_true rfl) dX3_bringUp_9 (wa_c bC_same (wa_c rfl rfl)) rfl ?_
  obtain rfl := ti1 hF
  exact hret _ _ dX3_bringUp_12
-- X3_copyFrom
def f_X3_copyFrom (s0 : CV) (s1 : CV) (o_c : CV) (o_s0 : CV) (o_s1 : CV) (o_k0 : Int32) (o_k1 : Int32) : CV × CV × CV × Int32 × Int32 :=
  (pl1 (if o_k0 = 0 then s0 else o_s0) (fun (w2 : CV) => (pl1 (if o_k1 = 0 then s1 else o_s1) (fun (w5 : CV) => (o_c, w2, w5, o_k0, o_k1)))))
abbrev rm_X3_copyFrom : Room := { frames := 4, cells := 0, slots := 0, locals := 89 }
set_option maxHeartbeats 4000000 in
set_option maxRecDepth 100000 in
theorem c_X3_copyFrom (l : Launch) (D : va_G) (cI cC cR : ClassId) (h0 : Nat) (a b d : Nat → Nat) (oh : Nat) (oa ob od : Nat → Nat) (c : CV) (s0 : CV) (s1 : CV) (k0 : Int32) (k1 : Int32) (o_c : CV) (o_s0 : CV) (o_s1 : CV) (o_k0 : Int32) (o_k1 : Int32) (hb_o_k0 : o_k0 = 0 ∨ o_k0 = 1) (hb_o_k1 : o_k1 = 0 ∨ o_k1 = 1) (c' : CV) (s0' : CV) (s1' : CV) (k0' : Int32) (k1' : Int32) (hF : f_X3_copyFrom s0 s1 o_c o_s0 o_s1 o_k0 o_k1 = (c', s0', s1', k0', k1')) : MEq l yX3_copyFrom cX3_copyFrom 2 none rm_X3_copyFrom D (TY cI cC cR) [.ref h0, .ref oh] (wj [[(h0, .inr (3, [.ref (a 0), .ref (b 0), .ref (d 0), .int k0, .int k1]))], bC cI a c, bC cI b s0, bC cI d s1, [(oh, .inr (3, [.ref (oa 0), .ref (ob 0), .ref (od 0), .int o_k0, .int o_k1]))], bC cI oa o_c, bC cI ob o_s0, bC cI od o_s1]) (wj [[(h0, .inr (3, [.ref (a 0), .ref (b 0), .ref (d 0), .int k0', .int k1']))], bC cI a c', bC cI b s0', bC cI d s1', [(oh, .inr (3, [.ref (oa 0), .ref (ob 0), .ref (od 0), .int o_k0, .int o_k1]))], bC cI oa o_c, bC cI ob o_s0, bC cI od o_s1]) none := by
  refine me_v pn_X3 (Nat.le_of_ble_eq_true rfl) rfl (fun Γ X E hret => ?_)
  unfold f_X3_copyFrom at hF
  refine kw_aload_n X dX3_copyFrom_0 rfl 0 rfl ?_
  refine kb_get X inX3 0 0 rfl rfl rfl 0 (by decide) rfl gw_144 rfl dX3_copyFrom_1 ?_
  refine kw_aload_n X dX3_copyFrom_4 rfl 1 rfl ?_
  refine kb_get X inX3 4 0 rfl rfl rfl 0 (by decide) rfl gw_144 rfl dX3_copyFrom_5 ?_
  refine kb_mev X (As := [.ref (oa 0)]) (st := []) (bs' := [[(h0, .inr (3, [.ref (a 0), .ref (b 0), .ref (d 0), .int k0, .int k1]))], bC cI a o_c, bC cI b s0, bC cI d s1, [(oh, .inr (3, [.ref (oa 0), .ref (ob 0), .ref (od 0), .int o_k0, .int o_k1]))], bC cI oa o_c, bC cI ob o_s0, bC cI od o_s1]) E (cb_copyFrom l D cI cC cR a oa c o_c) vl_X3_22 yv_X0_copyFrom ⟨Nat.le_of_ble_eq_true rfl, Nat.le_of_ble_eq_true rfl⟩ ⟨rfl, rfl⟩ ⟨Nat.zero_le _, Nat.zero_le _⟩ 1 0 rfl rfl rfl [1, 5] rfl rfl rfl rfl (Nat.le_of_ble_eq_true rfl) dX3_copyFrom_8 (wa_c bC_same (wa_c rfl rfl)) rfl ?_
  refine kw_aload_n X dX3_copyFrom_11 rfl 1 rfl ?_
  refine kb_get X inX3 4 0 rfl rfl rfl 3 (by decide) rfl gw_148 rfl dX3_copyFrom_12 ?_
  obtain ⟨w2, hx3, hF⟩ := pl1_ex hF
  have J : KW Γ 0 0 (wj [[(h0, .inr (3, [.ref (a 0), .ref (b 0), .ref (d 0), .int k0, .int k1]))], bC cI a o_c, bC cI b w2, bC cI d s1, [(oh, .inr (3, [.ref (oa 0), .ref (ob 0), .ref (od 0), .int o_k0, .int o_k1]))], bC cI oa o_c, bC cI ob o_s0, bC cI od o_s1]) [(0, .ref h0), (1, .ref oh)] 29 [] := by
    refine kw_aload_n X dX3_copyFrom_29 rfl 1 rfl ?_
    refine kb_get X inX3 4 0 rfl rfl rfl 4 (by decide) rfl gw_149 rfl dX3_copyFrom_30 ?_
    obtain ⟨w5, hx6, hF⟩ := pl1_ex hF
    have J : KW Γ 0 0 (wj [[(h0, .inr (3, [.ref (a 0), .ref (b 0), .ref (d 0), .int k0, .int k1]))], bC cI a o_c, bC cI b w2, bC cI d w5, [(oh, .inr (3, [.ref (oa 0), .ref (ob 0), .ref (od 0), .int o_k0, .int o_k1]))], bC cI oa o_c, bC cI ob o_s0, bC cI od o_s1]) [(0, .ref h0), (1, .ref oh)] 47 [] := by
      refine kw_aload_n X dX3_copyFrom_47 rfl 0 rfl ?_
      refine kw_aload_n X dX3_copyFrom_48 rfl 1 rfl ?_
      refine kb_get X inX3 4 0 rfl rfl rfl 3 (by decide) rfl gw_148 rfl dX3_copyFrom_49 ?_
      refine kb_put X E inX3 tyX3 tyX3_ok nmX3 0 0 rfl rfl rfl 3 (by decide) rfl gw_148 rfl pfd_Z (bz_n hb_o_k0) (bz_f hb_o_k0) (Nat.le_of_ble_eq_true rfl) (bs' := [[(h0, .inr (3, [.ref (a 0), .ref (b 0), .ref (d 0), .int o_k0, .int k1]))], bC cI a o_c, bC cI b w2, bC cI d w5, [(oh, .inr (3, [.ref (oa 0), .ref (ob 0), .ref (od 0), .int o_k0, .int o_k1]))], bC cI oa o_c, bC cI ob o_s0, bC cI od o_s1]) rfl dX3_copyFrom_52 ?_
      refine kw_aload_n X dX3_copyFrom_55 rfl 0 rfl ?_
      refine kw_aload_n X dX3_copyFrom_56 rfl 1 rfl ?_
      refine kb_get X inX3 4 0 rfl rfl rfl 4 (by decide) rfl gw_149 rfl dX3_copyFrom_57 ?_
      refine kb_put X E inX3 tyX3 tyX3_ok nmX3 0 0 rfl rfl rfl 4 (by decide) rfl gw_149 rfl pfd_Z (bz_n hb_o_k1) (bz_f hb_o_k1) (Nat.le_of_ble_eq_true rfl) (bs' := [[(h0, .inr (3, [.ref (a 0), .ref (b 0), .ref (d 0), .int o_k0, .int o_k1]))], bC cI a o_c, bC cI b w2, bC cI d w5, [(oh, .inr (3, [.ref (oa 0), .ref (ob 0), .ref (od 0), .int o_k0, .int o_k1]))], bC cI oa o_c, bC cI ob o_s0, bC cI od o_s1]) rfl dX3_copyFrom_60 ?_
      obtain ⟨rfl, rfl, rfl, rfl, rfl⟩ := ti5 hF
      exact hret _ _ dX3_copyFrom_63
    replace hF := hx6
    refine kw_if_eq X 47 dX3_copyFrom_33 (by decide) (fun q4 => ?_) (fun q4 => ?_)
    · replace hF := (if_pos q4).symm.trans hF
      obtain rfl := ti1 hF
      exact J
    · replace hF := (if_neg q4).symm.trans hF
      refine kw_aload_n X dX3_copyFrom_36 rfl 0 rfl ?_
      refine kb_get X inX3 0 0 rfl rfl rfl 2 (by decide) rfl gw_147 rfl dX3_copyFrom_37 ?_
      refine kw_aload_n X dX3_copyFrom_40 rfl 1 rfl ?_
      refine kb_get X inX3 4 0 rfl rfl rfl 2 (by decide) rfl gw_147 rfl dX3_copyFrom_41 ?_
      refine kb_mev X (As := [.ref (od 0)]) (st := []) (bs' := [[(h0, .inr (3, [.ref (a 0), .ref (b 0), .ref (d 0), .int k0, .int k1]))], bC cI a o_c, bC cI b w2, bC cI d o_s1, [(oh, .inr (3, [.ref (oa 0), .ref (ob 0), .ref (od 0), .int o_k0, .int o_k1]))], bC cI oa o_c, bC cI ob o_s0, bC cI od o_s1]) E (cb_copyFrom l D cI cC cR d od s1 o_s1) vl_X3_22 yv_X0_copyFrom ⟨Nat.le_of_ble_eq_true rfl, Nat.le_of_ble_eq_true rfl⟩ ⟨rfl, rfl⟩ ⟨Nat.zero_le _, Nat.zero_le _⟩ 3 0 rfl rfl rfl [3, 7] rfl rfl rfl rfl (Nat.le_of_ble_eq_true rfl) dX3_copyFrom_44 (wa_c bC_same (wa_c rfl rfl)) rfl ?_
      obtain rfl := ti1 hF
      exact J
  replace hF := hx3
  refine kw_if_eq X 29 dX3_copyFrom_15 (by decide) (fun q1 => ?_) (fun q1 => ?_)
  · replace hF := (if_pos q1).symm.trans hF
    obtain rfl := ti1 hF
    exact J
  · replace hF := (if_neg q1).symm.trans hF
    refine kw_aload_n X dX3_copyFrom_18 rfl 0 rfl ?_
    refine kb_get X inX3 0 0 rfl rfl rfl 1 (by decide) rfl gw_146 rfl dX3_copyFrom_19 ?_
    refine kw_aload_n X dX3_copyFrom_22 rfl 1 rfl ?_
    refine kb_get X inX3 4 0 rfl rfl rfl 1 (by decide) rfl gw_146 rfl dX3_copyFrom_23 ?_
    refine kb_mev X (As := [.ref (ob 0)]) (st := []) (bs' := [[(h0, .inr (3, [.ref (a 0), .ref (b 0), .ref (d 0), .int k0, .int k1]))], bC cI a o_c, bC cI b o_s0, bC cI d s1, [(oh, .inr (3, [.ref (oa 0), .ref (ob 0), .ref (od 0), .int o_k0, .int o_k1]))], bC cI oa o_c, bC cI ob o_s0, bC cI od o_s1]) E (cb_copyFrom l D cI cC cR b ob s0 o_s0) vl_X3_22 yv_X0_copyFrom ⟨Nat.le_of_ble_eq_true rfl, Nat.le_of_ble_eq_true rfl⟩ ⟨rfl, rfl⟩ ⟨Nat.zero_le _, Nat.zero_le _⟩ 2 0 rfl rfl rfl [2, 6] rfl rfl rfl rfl (Nat.le_of_ble_eq_true rfl) dX3_copyFrom_26 (wa_c bC_same (wa_c rfl rfl)) rfl ?_
    obtain rfl := ti1 hF
    exact J
