-- X6_outside
def f_X6_outside (p1 : Int32) (p2 : Int32) (p3 : Int32) : Int32 :=
  (if p1 < p2 then 1 else (if p3 < p1 then 1 else 0))
abbrev rm_X6_outside : Room := { frames := 0, cells := 0, slots := 0, locals := 0 }
set_option maxHeartbeats 4000000 in
set_option maxRecDepth 100000 in
theorem c_X6_outside (l : Launch) (D : va_G) (cI cC cR : ClassId) (p1 : Int32) (p2 : Int32) (p3 : Int32) (r : Int32) (hF : f_X6_outside p1 p2 p3 = r) : MPi l yX6_outside cX6_outside 3 (some .boolean) rm_X6_outside D (TY cI cC cR) [.int p1, .int p2, .int p3] ([]) (.int r) := by
  refine me_p pn_X6 (Nat.le_of_ble_eq_true rfl) rfl (fun Γ X hret => ?_)
  unfold f_X6_outside at hF
  refine kw_iload_n X dX6_outside_0 rfl 0 rfl ?_
  refine kw_iload_n X dX6_outside_1 rfl 1 rfl ?_
  refine kw_icmp_lt X 10 dX6_outside_2 (by decide) (fun q1 => ?_) (fun q1 => ?_)
  · replace hF := (if_pos q1).symm.trans hF
    refine kw_iconst X dX6_outside_10 ci_1 ?_
    refine kw_goto X 15 dX6_outside_11 (by decide) ?_
    obtain rfl := ti1 hF
    exact hret _ _ _ rfl dX6_outside_15
  · replace hF := (if_neg q1).symm.trans hF
    refine kw_iload_n X dX6_outside_5 rfl 0 rfl ?_
    refine kw_iload_n X dX6_outside_6 rfl 2 rfl ?_
    refine kw_icmp_le X 14 dX6_outside_7 (by decide) (fun q2 => ?_) (fun q2 => ?_)
    · replace hF := (if_neg q2).symm.trans hF
      refine kw_iconst X dX6_outside_14 ci_0 ?_
      obtain rfl := ti1 hF
      exact hret _ _ _ rfl dX6_outside_15
    · replace hF := (if_pos q2).symm.trans hF
      refine kw_iconst X dX6_outside_10 ci_1 ?_
      refine kw_goto X 15 dX6_outside_11 (by decide) ?_
      obtain rfl := ti1 hF
      exact hret _ _ _ rfl dX6_outside_15
-- X6_kindOf
def f_X6_kindOf (p1 : Int32) : Int32 :=
  (if p1 < 8 then 0 else (if p1 < 20 then 1 else (if p1 < 22 then 2 else (if p1 = 22 then 3 else 4))))
abbrev rm_X6_kindOf : Room := { frames := 0, cells := 0, slots := 0, locals := 0 }
set_option maxHeartbeats 4000000 in
set_option maxRecDepth 100000 in
theorem c_X6_kindOf (l : Launch) (D : va_G) (cI cC cR : ClassId) (p1 : Int32) (r : Int32) (hF : f_X6_kindOf p1 = r) : MPi l yX6_kindOf cX6_kindOf 1 (some .int) rm_X6_kindOf D (TY cI cC cR) [.int p1] ([]) (.int r) := by
  refine me_p pn_X6 (Nat.le_of_ble_eq_true rfl) rfl (fun Γ X hret => ?_)
  unfold f_X6_kindOf at hF
  refine kw_iload_n X dX6_kindOf_0 rfl 0 rfl ?_
  refine kw_bipush X dX6_kindOf_1 cb_8 ?_
  refine kw_icmp_ge X 8 dX6_kindOf_3 (by decide) (fun q1 => ?_) (fun q1 => ?_)
  · replace hF := (if_neg q1).symm.trans hF
    refine kw_iload_n X dX6_kindOf_8 rfl 0 rfl ?_
    refine kw_bipush X dX6_kindOf_9 cb_20 ?_
    refine kw_icmp_ge X 16 dX6_kindOf_11 (by decide) (fun q2 => ?_) (fun q2 => ?_)
    · replace hF := (if_neg q2).symm.trans hF
      refine kw_iload_n X dX6_kindOf_16 rfl 0 rfl ?_
      refine kw_bipush X dX6_kindOf_17 cb_22 ?_
      refine kw_icmp_ge X 24 dX6_kindOf_19 (by decide) (fun q3 => ?_) (fun q3 => ?_)
      · replace hF := (if_neg q3).symm.trans hF
        refine kw_iload_n X dX6_kindOf_24 rfl 0 rfl ?_
        refine kw_bipush X dX6_kindOf_25 cb_22 ?_
        refine kw_icmp_ne X 34 dX6_kindOf_27 (by decide) (fun q4 => ?_) (fun q4 => ?_)
        · replace hF := (if_neg q4).symm.trans hF
          refine kw_iconst X dX6_kindOf_34 ci_4 ?_
          obtain rfl := ti1 hF
          exact hret _ _ _ (vp_nar_int _) dX6_kindOf_35
        · replace hF := (if_pos q4).symm.trans hF
          refine kw_iconst X dX6_kindOf_30 ci_3 ?_
          refine kw_goto X 35 dX6_kindOf_31 (by decide) ?_
          obtain rfl := ti1 hF
          exact hret _ _ _ (vp_nar_int _) dX6_kindOf_35
      · replace hF := (if_pos q3).symm.trans hF
        refine kw_iconst X dX6_kindOf_22 ci_2 ?_
        obtain rfl := ti1 hF
        exact hret _ _ _ (vp_nar_int _) dX6_kindOf_23
    · replace hF := (if_pos q2).symm.trans hF
      refine kw_iconst X dX6_kindOf_14 ci_1 ?_
      obtain rfl := ti1 hF
      exact hret _ _ _ (vp_nar_int _) dX6_kindOf_15
  · replace hF := (if_pos q1).symm.trans hF
    refine kw_iconst X dX6_kindOf_6 ci_0 ?_
    obtain rfl := ti1 hF
    exact hret _ _ _ (vp_nar_int _) dX6_kindOf_7
-- X6_ownerOf
def f_X6_ownerOf (p1 : Int32) : Int32 :=
  (if (f_X6_kindOf p1) = 0 then p1 else (if (f_X6_kindOf p1) = 1 then (p1 - 8) else (if (f_X6_kindOf p1) = 2 then (p1 - 20) else (-9))))
abbrev rm_X6_ownerOf : Room := { frames := 1, cells := 0, slots := 0, locals := 20 }
set_option maxHeartbeats 4000000 in
set_option maxRecDepth 100000 in
theorem c_X6_ownerOf (l : Launch) (D : va_G) (cI cC cR : ClassId) (p1 : Int32) (r : Int32) (hF : f_X6_ownerOf p1 = r) : MPi l yX6_ownerOf cX6_ownerOf 1 (some .int) rm_X6_ownerOf D (TY cI cC cR) [.int p1] ([]) (.int r) := by
  refine me_p pn_X6 (Nat.le_of_ble_eq_true rfl) rfl (fun Γ X hret => ?_)
  unfold f_X6_ownerOf at hF
  refine kw_iload_n X dX6_ownerOf_0 rfl 0 rfl ?_
  refine kw_sp X (r := .int (f_X6_kindOf p1)) (As := [.int p1]) (st := []) (c_X6_kindOf l D cI cC cR  p1 (f_X6_kindOf p1) rfl) vl_X6_209 yv_X6_kindOf ⟨Nat.le_of_ble_eq_true rfl, Nat.le_of_ble_eq_true rfl⟩ ⟨rfl, rfl⟩ ⟨Nat.zero_le _, Nat.zero_le _⟩ [] rfl rfl rfl rfl (Nat.le_of_ble_eq_true rfl) dX6_ownerOf_1 ?_
  by_cases q1 : (f_X6_kindOf p1) = 0
  · replace hF := (if_pos q1).symm.trans hF
    refine kw_tblIn X 32 dX6_ownerOf_4 (by rw [q1]; decide) (by rw [q1]; decide) (by rw [q1]; try rfl) (by decide) ?_
    refine kw_iload_n X dX6_ownerOf_32 rfl 0 rfl ?_
    obtain rfl := ti1 hF
    exact hret _ _ _ (vp_nar_int _) dX6_ownerOf_33
  · replace hF := (if_neg q1).symm.trans hF
    by_cases q2 : (f_X6_kindOf p1) = 1
    · replace hF := (if_pos q2).symm.trans hF
      refine kw_tblIn X 34 dX6_ownerOf_4 (by rw [q2]; decide) (by rw [q2]; decide) (by rw [q2]; try rfl) (by decide) ?_
      refine kw_iload_n X dX6_ownerOf_34 rfl 0 rfl ?_
      refine kw_bipush X dX6_ownerOf_35 cb_8 ?_
      refine kw_isub X dX6_ownerOf_37 ?_
      obtain rfl := ti1 hF
      exact hret _ _ _ (vp_nar_int _) dX6_ownerOf_38
    · replace hF := (if_neg q2).symm.trans hF
      by_cases q3 : (f_X6_kindOf p1) = 2
      · replace hF := (if_pos q3).symm.trans hF
        refine kw_tblIn X 39 dX6_ownerOf_4 (by rw [q3]; decide) (by rw [q3]; decide) (by rw [q3]; try rfl) (by decide) ?_
        refine kw_iload_n X dX6_ownerOf_39 rfl 0 rfl ?_
        refine kw_bipush X dX6_ownerOf_40 cb_20 ?_
        refine kw_isub X dX6_ownerOf_42 ?_
        obtain rfl := ti1 hF
        exact hret _ _ _ (vp_nar_int _) dX6_ownerOf_43
      · replace hF := (if_neg q3).symm.trans hF
        have n0 := ne_toInt q1 (n := 0) (by decide)
        have n1 := ne_toInt q2 (n := 1) (by decide)
        have n2 := ne_toInt q3 (n := 2) (by decide)
        refine kw_tblOut X 44 dX6_ownerOf_4 (by omega) (by decide) ?_
        refine kw_bipush X dX6_ownerOf_44 cb_m9 ?_
        obtain rfl := ti1 hF
        exact hret _ _ _ (vp_nar_int _) dX6_ownerOf_46
-- X6_wornBy
def f_X6_wornBy (p1 : Int32) (p2 : Int32) (p3 : Int32) : Int32 :=
  (pl1 (if p1 < 16 then p2 else (2 * p2)) (fun (x2 : Int32) => (imin 64 ((p1 + x2) + (2 * p3)))))
abbrev rm_X6_wornBy : Room := { frames := 1, cells := 0, slots := 0, locals := 21 }
set_option maxHeartbeats 4000000 in
set_option maxRecDepth 100000 in
theorem c_X6_wornBy (l : Launch) (D : va_G) (cI cC cR : ClassId) (p1 : Int32) (p2 : Int32) (p3 : Int32) (r : Int32) (hF : f_X6_wornBy p1 p2 p3 = r) : MPi l yX6_wornBy cX6_wornBy 4 (some .int) rm_X6_wornBy D (TY cI cC cR) [.int p1, .int p2, .int p3] ([]) (.int r) := by
  refine me_p pn_X6 (Nat.le_of_ble_eq_true rfl) rfl (fun Γ X hret => ?_)
  unfold f_X6_wornBy at hF
  refine kw_iload_n X dX6_wornBy_0 rfl 0 rfl ?_
  refine kw_bipush X dX6_wornBy_1 cb_16 ?_
  obtain ⟨x2, hx3, hF⟩ := pl1_ex hF
  have J : KW Γ 0 0 ([]) [(0, .int p1), (2, .int p3)] 13 [.int x2] := by
    refine kw_istore_n (lo' := [(0, .int p1), (2, .int p3), (3, .int x2)]) X dX6_wornBy_13 rfl (by decide) [1, 2, 0] rfl ?_
    refine kw_bipush X dX6_wornBy_14 cb_64 ?_
    refine kw_iload_n X dX6_wornBy_16 rfl 0 rfl ?_
    refine kw_iload_n X dX6_wornBy_17 rfl 2 rfl ?_
    refine kw_iadd X dX6_wornBy_18 ?_
    refine kw_iconst X dX6_wornBy_19 ci_2 ?_
    refine kw_iload_n X dX6_wornBy_20 rfl 1 rfl ?_
    refine kw_imul X dX6_wornBy_21 ?_
    refine kw_iadd X dX6_wornBy_22 ?_
    refine kw_mmin X gw_417 gw_270 gw_17 gw_271 ⟨Nat.le_of_ble_eq_true rfl, Nat.le_of_ble_eq_true rfl⟩ ⟨Nat.zero_le _, Nat.zero_le _⟩ dX6_wornBy_23 ?_
    obtain rfl := ti1 hF
    exact hret _ _ _ (vp_nar_int _) dX6_wornBy_26
  replace hF := hx3
  refine kw_icmp_ge X 10 dX6_wornBy_3 (by decide) (fun q1 => ?_) (fun q1 => ?_)
  · replace hF := (if_neg q1).symm.trans hF
    refine kw_iconst X dX6_wornBy_10 ci_2 ?_
    refine kw_iload_n X dX6_wornBy_11 rfl 1 rfl ?_
    refine kw_imul X dX6_wornBy_12 ?_
    refine kw_loc (lo' := [(0, .int p1), (2, .int p3)]) [0, 2] rfl ?_
    obtain rfl := ti1 hF
    exact J
  · replace hF := (if_pos q1).symm.trans hF
    refine kw_iload_n X dX6_wornBy_6 rfl 1 rfl ?_
    refine kw_goto X 13 dX6_wornBy_7 (by decide) ?_
    refine kw_loc (lo' := [(0, .int p1), (2, .int p3)]) [0, 2] rfl ?_
    obtain rfl := ti1 hF
    exact J
-- X2_at
def f_X2_at (N : Nat) (c : Nat → Int32) (p1 : Int32) : Int32 :=
  (if p1 < 0 then 0 else (if p1 < (nI N) then (c p1.toNatClampNeg) else 0))
abbrev rm_X2_at : Room := { frames := 0, cells := 0, slots := 0, locals := 0 }
set_option maxHeartbeats 4000000 in
set_option maxRecDepth 100000 in
theorem c_X2_at (l : Launch) (D : va_G) (cI cC cR : ClassId) (h0 h1 : Nat) (N : Nat) (hN : N < 2 ^ 31) (c : Nat → Int32) (p1 : Int32) (r : Int32) (hF : f_X2_at N c p1 = r) : MPi l yX2_at cX2_at 2 (some .int) rm_X2_at D (TY cI cC cR) [.ref h0, .int p1] (wX2 cI h0 h1 N c) (.int r) := by
  refine me_p pn_X2 (Nat.le_of_ble_eq_true rfl) rfl (fun Γ X hret => ?_)
  unfold f_X2_at at hF
  refine kw_iload_n X dX2_at_0 rfl 1 rfl ?_
  refine kw_if_lt X 22 dX2_at_1 (by decide) (fun q1 => ?_) (fun q1 => ?_)
  · replace hF := (if_pos q1).symm.trans hF
    refine kw_iconst X dX2_at_22 ci_0 ?_
    obtain rfl := ti1 hF
    exact hret _ _ _ (vp_nar_int _) dX2_at_23
  · replace hF := (if_neg q1).symm.trans hF
    refine kw_iload_n X dX2_at_4 rfl 1 rfl ?_
    refine kw_aload_n X dX2_at_5 rfl 0 rfl ?_
    refine kw_get X inX2 0 rfl rfl 0 (by decide) rfl gw_60 rfl dX2_at_6 ?_
    refine kw_alen (v := (nI N)) X 1 0 rfl rfl rfl dX2_at_9 ?_
    refine kw_icmp_ge X 22 dX2_at_10 (by decide) (fun q2 => ?_) (fun q2 => ?_)
    · replace hF := (if_neg q2).symm.trans hF
      refine kw_iconst X dX2_at_22 ci_0 ?_
      obtain rfl := ti1 hF
      exact hret _ _ _ (vp_nar_int _) dX2_at_23
    · replace hF := (if_pos q2).symm.trans hF
      refine kw_aload_n X dX2_at_13 rfl 0 rfl ?_
      refine kw_get X inX2 0 rfl rfl 0 (by decide) rfl gw_60 rfl dX2_at_14 ?_
      refine kw_iload_n X dX2_at_17 rfl 1 rfl ?_
      refine kw_iald X 1 0 rfl rfl (vp_ok q1 q2 hN) rfl dX2_at_18 ?_
      refine kw_goto X 23 dX2_at_19 (by decide) ?_
      obtain rfl := ti1 hF
      exact hret _ _ _ (vp_nar_int _) dX2_at_23
-- X2_put
def f_X2_put (N : Nat) (c : Nat → Int32) (p1 : Int32) (p2 : Int32) : (Nat → Int32) :=
  (if p1 < 0 then c else (if p1 < (nI N) then (upd c p1.toNatClampNeg p2) else c))
abbrev rm_X2_put : Room := { frames := 0, cells := 0, slots := 0, locals := 0 }
set_option maxHeartbeats 4000000 in
set_option maxRecDepth 100000 in
theorem c_X2_put (l : Launch) (D : va_G) (cI cC cR : ClassId) (h0 h1 : Nat) (N : Nat) (hN : N < 2 ^ 31) (c : Nat → Int32) (p1 : Int32) (p2 : Int32) (c' : Nat → Int32) (hF : f_X2_put N c p1 p2 = c') : MEq l yX2_put cX2_put 3 none rm_X2_put D (TY cI cC cR) [.ref h0, .int p1, .int p2] (wX2 cI h0 h1 N c) (wX2 cI h0 h1 N c') none := by
  refine me_v pn_X2 (Nat.le_of_ble_eq_true rfl) rfl (fun Γ X E hret => ?_)
  unfold f_X2_put at hF
  refine kw_iload_n X dX2_put_0 rfl 1 rfl ?_
  refine kw_if_lt X 20 dX2_put_1 (by decide) (fun q1 => ?_) (fun q1 => ?_)
  · replace hF := (if_pos q1).symm.trans hF
    obtain rfl := ti1 hF
    exact hret _ _ dX2_put_20
  · replace hF := (if_neg q1).symm.trans hF
    refine kw_iload_n X dX2_put_4 rfl 1 rfl ?_
    refine kw_aload_n X dX2_put_5 rfl 0 rfl ?_
    refine kw_get X inX2 0 rfl rfl 0 (by decide) rfl gw_60 rfl dX2_put_6 ?_
    refine kw_alen (v := (nI N)) X 1 0 rfl rfl rfl dX2_put_9 ?_
    refine kw_icmp_ge X 20 dX2_put_10 (by decide) (fun q2 => ?_) (fun q2 => ?_)
    · replace hF := (if_neg q2).symm.trans hF
      obtain rfl := ti1 hF
      exact hret _ _ dX2_put_20
    · replace hF := (if_pos q2).symm.trans hF
      refine kw_aload_n X dX2_put_13 rfl 0 rfl ?_
      refine kw_get X inX2 0 rfl rfl 0 (by decide) rfl gw_60 rfl dX2_put_14 ?_
      refine kw_iload_n X dX2_put_17 rfl 1 rfl ?_
      refine kw_iload_n X dX2_put_18 rfl 2 rfl ?_
      refine kw_iast X E 1 0 rfl rfl (vp_ok q1 q2 hN) (ws' := wX2 cI h0 h1 N (upd c p1.toNatClampNeg p2)) rfl dX2_put_19 ?_
      obtain rfl := ti1 hF
      exact hret _ _ dX2_put_20
-- X2_add
def f_X2_add (N : Nat) (c : Nat → Int32) (p1 : Int32) (p2 : Int32) : (Nat → Int32) :=
  (if p1 < 0 then c else (if p1 < (nI N) then (upd c p1.toNatClampNeg ((c p1.toNatClampNeg) + p2)) else c))
abbrev rm_X2_add : Room := { frames := 0, cells := 0, slots := 0, locals := 0 }
set_option maxHeartbeats 4000000 in
set_option maxRecDepth 100000 in
theorem c_X2_add (l : Launch) (D : va_G) (cI cC cR : ClassId) (h0 h1 : Nat) (N : Nat) (hN : N < 2 ^ 31) (c : Nat → Int32) (p1 : Int32) (p2 : Int32) (c' : Nat → Int32) (hF : f_X2_add N c p1 p2 = c') : MEq l yX2_add cX2_add 3 none rm_X2_add D (TY cI cC cR) [.ref h0, .int p1, .int p2] (wX2 cI h0 h1 N c) (wX2 cI h0 h1 N c') none := by
  refine me_v pn_X2 (Nat.le_of_ble_eq_true rfl) rfl (fun Γ X E hret => ?_)
  unfold f_X2_add at hF
  refine kw_iload_n X dX2_add_0 rfl 1 rfl ?_
  refine kw_if_lt X 23 dX2_add_1 (by decide) (fun q1 => ?_) (fun q1 => ?_)
  · replace hF := (if_pos q1).symm.trans hF
    obtain rfl := ti1 hF
    exact hret _ _ dX2_add_23
  · replace hF := (if_neg q1).symm.trans hF
    refine kw_iload_n X dX2_add_4 rfl 1 rfl ?_
    refine kw_aload_n X dX2_add_5 rfl 0 rfl ?_
    refine kw_get X inX2 0 rfl rfl 0 (by decide) rfl gw_60 rfl dX2_add_6 ?_
    refine kw_alen (v := (nI N)) X 1 0 rfl rfl rfl dX2_add_9 ?_
    refine kw_icmp_ge X 23 dX2_add_10 (by decide) (fun q2 => ?_) (fun q2 => ?_)
    · replace hF := (if_neg q2).symm.trans hF
      obtain rfl := ti1 hF
      exact hret _ _ dX2_add_23
    · replace hF := (if_pos q2).symm.trans hF
      refine kw_aload_n X dX2_add_13 rfl 0 rfl ?_
      refine kw_get X inX2 0 rfl rfl 0 (by decide) rfl gw_60 rfl dX2_add_14 ?_
      refine kw_iload_n X dX2_add_17 rfl 1 rfl ?_
      refine kw_dup2 X dX2_add_18 rfl rfl ?_
      refine kw_iald X 1 0 rfl rfl (vp_ok q1 q2 hN) rfl dX2_add_19 ?_
      refine kw_iload_n X dX2_add_20 rfl 2 rfl ?_
      refine kw_iadd X dX2_add_21 ?_
      refine kw_iast X E 1 0 rfl rfl (vp_ok q1 q2 hN) (ws' := wX2 cI h0 h1 N (upd c p1.toNatClampNeg ((c p1.toNatClampNeg) + p2))) rfl dX2_add_22 ?_
      obtain rfl := ti1 hF
      exact hret _ _ dX2_add_23
-- X2_sum
def f_X2_sum_L13 (N : Nat) (c : Nat → Int32) : Nat → Int32 → Int32 → Option (Int32)
  | 0, _, _ => none
  | F + 1, v1_8, v4_9 => (if v4_9 < (nI N) then ob1 (aget N c v4_9) (fun a11 => (f_X2_sum_L13 N c F (v1_8 + a11) (v4_9 + 1))) else (some (v1_8)))
def f_X2_sum (Z : Nat) (N : Nat) (c : Nat → Int32) : Option (Int32) :=
  (ob1 (f_X2_sum_L13 N c Z 0 0) (fun (e7 : Int32) => (some e7)))
abbrev rm_X2_sum : Room := { frames := 0, cells := 0, slots := 0, locals := 0 }
set_option maxHeartbeats 4000000 in
set_option maxRecDepth 100000 in
theorem c_X2_sum (l : Launch) (D : va_G) (cI cC cR : ClassId) (h0 h1 : Nat) (N : Nat) (hN : N < 2 ^ 31) (c : Nat → Int32) (Z : Nat) (r : Int32) (hF : f_X2_sum Z N c = some r) : MPi l yX2_sum cX2_sum 6 (some .int) rm_X2_sum D (TY cI cC cR) [.ref h0] (wX2 cI h0 h1 N c) (.int r) := by
  refine me_p pn_X2 (Nat.le_of_ble_eq_true rfl) rfl (fun Γ X hret => ?_)
  unfold f_X2_sum at hF
  refine kw_iconst X dX2_sum_0 ci_0 ?_
  refine kw_istore_n (lo' := [(0, .ref h0), (1, .int 0)]) X dX2_sum_1 rfl (by decide) [1, 0] rfl ?_
  refine kw_aload_n X dX2_sum_2 rfl 0 rfl ?_
  refine kw_get X inX2 0 rfl rfl 0 (by decide) rfl gw_60 rfl dX2_sum_3 ?_
  refine kw_astore_n (lo' := [(0, .ref h0), (1, .int 0), (2, .ref h1)]) X dX2_sum_6 rfl (by decide) [1, 2, 0] rfl ?_
  refine kw_aload_n X dX2_sum_7 rfl 2 rfl ?_
  refine kw_alen (v := (nI N)) X 1 0 rfl rfl rfl dX2_sum_8 ?_
  refine kw_istore_n (lo' := [(0, .ref h0), (1, .int 0), (2, .ref h1), (3, .int (nI N))]) X dX2_sum_9 rfl (by decide) [1, 2, 3, 0] rfl ?_
  refine kw_iconst X dX2_sum_10 ci_0 ?_
  refine kw_istore (lo' := [(0, .ref h0), (1, .int 0), (2, .ref h1), (3, .int (nI N)), (4, .int 0)]) X dX2_sum_11 (by decide) [1, 2, 3, 4, 0] rfl ?_
  refine kw_loc (lo' := [(1, .int 0), (2, .ref h1), (3, .int (nI N)), (4, .int 0)]) [1, 2, 3, 4] rfl ?_
  obtain ⟨e7, hx, hF⟩ := ob1_ex hF
  have J : KW Γ 0 0 (wX2 cI h0 h1 N c) [(1, .int e7)] 36 [] := by
    refine kw_iload_n X dX2_sum_36 rfl 0 rfl ?_
    obtain rfl := si1 hF
    exact hret _ _ _ (vp_nar_int _) dX2_sum_37
  have hL13 : ∀ (F : Nat) (v1_8 : Int32) (v4_9 : Int32), f_X2_sum_L13 N c F v1_8 v4_9 = some (e7) → KW Γ 0 0 (wX2 cI h0 h1 N c) [(1, .int v1_8), (2, .ref h1), (3, .int (nI N)), (4, .int v4_9)] 13 [] := by
    intro F
    induction F with
    | zero => intro v1_8 v4_9 hF; exact none_some hF
    | succ F ih13 =>
      intro v1_8 v4_9 hF
      rw [f_X2_sum_L13] at hF
      refine kw_iload X dX2_sum_13 3 rfl ?_
      refine kw_iload_n X dX2_sum_15 rfl 2 rfl ?_
      refine kw_icmp_ge X 36 dX2_sum_16 (by decide) (fun q10 => ?_) (fun q10 => ?_)
      · replace hF := (if_neg q10).symm.trans hF
        refine kw_loc (lo' := [(1, .int v1_8)]) [0] rfl ?_
        obtain rfl := si1 hF
        exact J
      · replace hF := (if_pos q10).symm.trans hF
        refine kw_aload_n X dX2_sum_19 rfl 1 rfl ?_
        refine kw_iload X dX2_sum_20 3 rfl ?_
        obtain ⟨a11, hx, hF⟩ := ob1_ex hF
        obtain ⟨hin, hx⟩ := aget_ex hx
        refine kw_iald X 1 0 rfl rfl hin hx dX2_sum_22 ?_
        refine kw_istore (lo' := [(1, .int v1_8), (2, .ref h1), (3, .int (nI N)), (4, .int v4_9), (5, .int a11)]) X dX2_sum_23 (by decide) [1, 2, 3, 4, 0] rfl ?_
        refine kw_iload_n X dX2_sum_25 rfl 0 rfl ?_
        refine kw_iload X dX2_sum_26 4 rfl ?_
        refine kw_iadd X dX2_sum_28 ?_
        refine kw_istore_n (lo' := [(1, .int (v1_8 + a11)), (2, .ref h1), (3, .int (nI N)), (4, .int v4_9), (5, .int a11)]) X dX2_sum_29 rfl (by decide) [0, 1, 2, 3, 4] rfl ?_
        refine kw_iinc (lo' := [(1, .int (v1_8 + a11)), (2, .ref h1), (3, .int (nI N)), (4, .int (v4_9 + 1)), (5, .int a11)]) X dX2_sum_30 3 rfl (congrArg (fun w => v4_9 + w) ci_1) (by decide) [1, 2, 3, 0, 4] rfl ?_
        refine kw_goto X 13 dX2_sum_33 (by decide) ?_
        refine kw_loc (lo' := [(1, .int (v1_8 + a11)), (2, .ref h1), (3, .int (nI N)), (4, .int (v4_9 + 1))]) [0, 1, 2, 3] rfl ?_
        exact ih13 _ _ hF
  exact hL13 Z _ _ hx
-- X5_addNew
def f_X5_addNew (sp : Nat → Int32) (ta : Nat → Int32) (num : Int32) (p1 : Int32) : (Nat → Int32) × (Nat → Int32) × Int32 :=
  ((f_X2_put 60 sp num p1), (f_X2_add 24 ta p1 1), (num + 1))
abbrev rm_X5_addNew : Room := { frames := 1, cells := 0, slots := 0, locals := 22 }
set_option maxHeartbeats 4000000 in
set_option maxRecDepth 100000 in
theorem c_X5_addNew (l : Launch) (D : va_G) (cI cC cR : ClassId) (h0 h1 h2 h3 h4 h5 h6 h7 h8 : Nat) (sp : Nat → Int32) (we : Nat → Int32) (le : Nat → Int32) (ta : Nat → Int32) (num : Int32) (p1 : Int32) (sp' : Nat → Int32) (ta' : Nat → Int32) (num' : Int32) (hF : f_X5_addNew sp ta num p1 = (sp', ta', num')) : MEq l yX5_addNew cX5_addNew 2 none rm_X5_addNew D (TY cI cC cR) [.ref h0, .int p1] (wX5 cI h0 h1 h2 h3 h4 h5 h6 h7 h8 sp we le ta num) (wX5 cI h0 h1 h2 h3 h4 h5 h6 h7 h8 sp' we le ta' num') none := by
  refine me_v pn_X5 (Nat.le_of_ble_eq_true rfl) rfl (fun Γ X E hret => ?_)
  unfold f_X5_addNew at hF
  refine kw_aload_n X dX5_addNew_0 rfl 0 rfl ?_
  refine kw_get X inX5 0 rfl rfl 0 (by decide) rfl gw_65 rfl dX5_addNew_1 ?_
  refine kw_aload_n X dX5_addNew_4 rfl 0 rfl ?_
  refine kw_get X inX5 0 rfl rfl 4 (by decide) rfl gw_75 rfl dX5_addNew_5 ?_
  refine kw_iload_n X dX5_addNew_8 rfl 1 rfl ?_
  refine kw_vev X (As := [.int num, .int p1]) (st := []) (ws' := wX5 cI h0 h1 h2 h3 h4 h5 h6 h7 h8 (f_X2_put 60 sp num p1) we le ta num) E (c_X2_put l D cI cC cR h1 h2 60 (by decide) sp num p1 (f_X2_put 60 sp num p1) rfl) vl_X5_37 yv_X2_put ⟨Nat.le_of_ble_eq_true rfl, Nat.le_of_ble_eq_true rfl⟩ ⟨rfl, rfl⟩ ⟨Nat.zero_le _, Nat.zero_le _⟩ 1 rfl rfl [1, 2] rfl rfl rfl rfl (Nat.le_of_ble_eq_true rfl) dX5_addNew_9 [h1, h2] rfl rfl rfl ?_
  refine kw_aload_n X dX5_addNew_12 rfl 0 rfl ?_
  refine kw_get X inX5 0 rfl rfl 3 (by decide) rfl gw_74 rfl dX5_addNew_13 ?_
  refine kw_iload_n X dX5_addNew_16 rfl 1 rfl ?_
  refine kw_iconst X dX5_addNew_17 ci_1 ?_
  refine kw_vev X (As := [.int p1, .int 1]) (st := []) (ws' := wX5 cI h0 h1 h2 h3 h4 h5 h6 h7 h8 (f_X2_put 60 sp num p1) we le (f_X2_add 24 ta p1 1) num) E (c_X2_add l D cI cC cR h7 h8 24 (by decide) ta p1 1 (f_X2_add 24 ta p1 1) rfl) vl_X5_40 yv_X2_add ⟨Nat.le_of_ble_eq_true rfl, Nat.le_of_ble_eq_true rfl⟩ ⟨rfl, rfl⟩ ⟨Nat.zero_le _, Nat.zero_le _⟩ 7 rfl rfl [7, 8] rfl rfl rfl rfl (Nat.le_of_ble_eq_true rfl) dX5_addNew_18 [h7, h8] rfl rfl rfl ?_
  refine kw_aload_n X dX5_addNew_21 rfl 0 rfl ?_
  refine kw_dup X dX5_addNew_22 rfl ?_
  refine kw_get X inX5 0 rfl rfl 4 (by decide) rfl gw_75 rfl dX5_addNew_23 ?_
  refine kw_iconst X dX5_addNew_26 ci_1 ?_
  refine kw_iadd X dX5_addNew_27 ?_
  refine kw_put X E inX5 tyX5 tyX5_ok nmX5 0 rfl rfl 4 (by decide) rfl gw_75 rfl pfd_I (vp_nar_int _) rfl (Nat.le_of_ble_eq_true rfl) (ws' := wX5 cI h0 h1 h2 h3 h4 h5 h6 h7 h8 (f_X2_put 60 sp num p1) we le (f_X2_add 24 ta p1 1) (num + 1)) rfl dX5_addNew_28 ?_
  obtain ⟨rfl, rfl, rfl⟩ := ti3 hF
  exact hret _ _ dX5_addNew_31
-- X5_move
def f_X5_move (sp : Nat → Int32) (ta : Nat → Int32) (p1 : Int32) (p2 : Int32) : (Nat → Int32) × (Nat → Int32) :=
  ((f_X2_put 60 sp p1 p2), (f_X2_add 24 (f_X2_add 24 ta (f_X2_at 60 sp p1) (-1)) p2 1))
abbrev rm_X5_move : Room := { frames := 1, cells := 0, slots := 0, locals := 22 }
set_option maxHeartbeats 4000000 in
set_option maxRecDepth 100000 in
theorem c_X5_move (l : Launch) (D : va_G) (cI cC cR : ClassId) (h0 h1 h2 h3 h4 h5 h6 h7 h8 : Nat) (sp : Nat → Int32) (we : Nat → Int32) (le : Nat → Int32) (ta : Nat → Int32) (num : Int32) (p1 : Int32) (p2 : Int32) (sp' : Nat → Int32) (ta' : Nat → Int32) (hF : f_X5_move sp ta p1 p2 = (sp', ta')) : MEq l yX5_move cX5_move 3 none rm_X5_move D (TY cI cC cR) [.ref h0, .int p1, .int p2] (wX5 cI h0 h1 h2 h3 h4 h5 h6 h7 h8 sp we le ta num) (wX5 cI h0 h1 h2 h3 h4 h5 h6 h7 h8 sp' we le ta' num) none := by
  refine me_v pn_X5 (Nat.le_of_ble_eq_true rfl) rfl (fun Γ X E hret => ?_)
  unfold f_X5_move at hF
  refine kw_aload_n X dX5_move_0 rfl 0 rfl ?_
  refine kw_get X inX5 0 rfl rfl 3 (by decide) rfl gw_74 rfl dX5_move_1 ?_
  refine kw_aload_n X dX5_move_4 rfl 0 rfl ?_
  refine kw_get X inX5 0 rfl rfl 0 (by decide) rfl gw_65 rfl dX5_move_5 ?_
  refine kw_iload_n X dX5_move_8 rfl 1 rfl ?_
  refine kw_vp X (r := .int (f_X2_at 60 sp p1)) (As := [.int p1]) (st := [.ref h7]) (c_X2_at l D cI cC cR h1 h2 60 (by decide) sp p1 (f_X2_at 60 sp p1) rfl) vl_X5_43 yv_X2_at ⟨Nat.le_of_ble_eq_true rfl, Nat.le_of_ble_eq_true rfl⟩ ⟨rfl, rfl⟩ ⟨Nat.zero_le _, Nat.zero_le _⟩ 1 rfl rfl [1, 2] rfl rfl rfl rfl (Nat.le_of_ble_eq_true rfl) dX5_move_9 ?_
  refine kw_iconst X dX5_move_12 ci_m1 ?_
  refine kw_vev X (As := [.int (f_X2_at 60 sp p1), .int (-1)]) (st := []) (ws' := wX5 cI h0 h1 h2 h3 h4 h5 h6 h7 h8 sp we le (f_X2_add 24 ta (f_X2_at 60 sp p1) (-1)) num) E (c_X2_add l D cI cC cR h7 h8 24 (by decide) ta (f_X2_at 60 sp p1) (-1) (f_X2_add 24 ta (f_X2_at 60 sp p1) (-1)) rfl) vl_X5_40 yv_X2_add ⟨Nat.le_of_ble_eq_true rfl, Nat.le_of_ble_eq_true rfl⟩ ⟨rfl, rfl⟩ ⟨Nat.zero_le _, Nat.zero_le _⟩ 7 rfl rfl [7, 8] rfl rfl rfl rfl (Nat.le_of_ble_eq_true rfl) dX5_move_13 [h7, h8] rfl rfl rfl ?_
  refine kw_aload_n X dX5_move_16 rfl 0 rfl ?_
  refine kw_get X inX5 0 rfl rfl 0 (by decide) rfl gw_65 rfl dX5_move_17 ?_
  refine kw_iload_n X dX5_move_20 rfl 1 rfl ?_
  refine kw_iload_n X dX5_move_21 rfl 2 rfl ?_
  refine kw_vev X (As := [.int p1, .int p2]) (st := []) (ws' := wX5 cI h0 h1 h2 h3 h4 h5 h6 h7 h8 (f_X2_put 60 sp p1 p2) we le (f_X2_add 24 ta (f_X2_at 60 sp p1) (-1)) num) E (c_X2_put l D cI cC cR h1 h2 60 (by decide) sp p1 p2 (f_X2_put 60 sp p1 p2) rfl) vl_X5_37 yv_X2_put ⟨Nat.le_of_ble_eq_true rfl, Nat.le_of_ble_eq_true rfl⟩ ⟨rfl, rfl⟩ ⟨Nat.zero_le _, Nat.zero_le _⟩ 1 rfl rfl [1, 2] rfl rfl rfl rfl (Nat.le_of_ble_eq_true rfl) dX5_move_22 [h1, h2] rfl rfl rfl ?_
  refine kw_aload_n X dX5_move_25 rfl 0 rfl ?_
  refine kw_get X inX5 0 rfl rfl 3 (by decide) rfl gw_74 rfl dX5_move_26 ?_
  refine kw_iload_n X dX5_move_29 rfl 2 rfl ?_
  refine kw_iconst X dX5_move_30 ci_1 ?_
  refine kw_vev X (As := [.int p2, .int 1]) (st := []) (ws' := wX5 cI h0 h1 h2 h3 h4 h5 h6 h7 h8 (f_X2_put 60 sp p1 p2) we le (f_X2_add 24 (f_X2_add 24 ta (f_X2_at 60 sp p1) (-1)) p2 1) num) E (c_X2_add l D cI cC cR h7 h8 24 (by decide) (f_X2_add 24 ta (f_X2_at 60 sp p1) (-1)) p2 1 (f_X2_add 24 (f_X2_add 24 ta (f_X2_at 60 sp p1) (-1)) p2 1) rfl) vl_X5_40 yv_X2_add ⟨Nat.le_of_ble_eq_true rfl, Nat.le_of_ble_eq_true rfl⟩ ⟨rfl, rfl⟩ ⟨Nat.zero_le _, Nat.zero_le _⟩ 7 rfl rfl [7, 8] rfl rfl rfl rfl (Nat.le_of_ble_eq_true rfl) dX5_move_31 [h7, h8] rfl rfl rfl ?_
  obtain ⟨rfl, rfl⟩ := ti2 hF
  exact hret _ _ dX5_move_34
-- X5_isBroken
def f_X5_isBroken (we : Nat → Int32) (p1 : Int32) : Int32 :=
  (if (f_X2_at 60 we p1) < 32 then 0 else 1)
abbrev rm_X5_isBroken : Room := { frames := 1, cells := 0, slots := 0, locals := 21 }
set_option maxHeartbeats 4000000 in
set_option maxRecDepth 100000 in
theorem c_X5_isBroken (l : Launch) (D : va_G) (cI cC cR : ClassId) (h0 h1 h2 h3 h4 h5 h6 h7 h8 : Nat) (sp : Nat → Int32) (we : Nat → Int32) (le : Nat → Int32) (ta : Nat → Int32) (num : Int32) (p1 : Int32) (r : Int32) (hF : f_X5_isBroken we p1 = r) : MPi l yX5_isBroken cX5_isBroken 2 (some .boolean) rm_X5_isBroken D (TY cI cC cR) [.ref h0, .int p1] (wX5 cI h0 h1 h2 h3 h4 h5 h6 h7 h8 sp we le ta num) (.int r) := by
  refine me_p pn_X5 (Nat.le_of_ble_eq_true rfl) rfl (fun Γ X hret => ?_)
  unfold f_X5_isBroken at hF
  refine kw_aload_n X dX5_isBroken_0 rfl 0 rfl ?_
  refine kw_get X inX5 0 rfl rfl 1 (by decide) rfl gw_68 rfl dX5_isBroken_1 ?_
  refine kw_iload_n X dX5_isBroken_4 rfl 1 rfl ?_
  refine kw_vp X (r := .int (f_X2_at 60 we p1)) (As := [.int p1]) (st := []) (c_X2_at l D cI cC cR h3 h4 60 (by decide) we p1 (f_X2_at 60 we p1) rfl) vl_X5_43 yv_X2_at ⟨Nat.le_of_ble_eq_true rfl, Nat.le_of_ble_eq_true rfl⟩ ⟨rfl, rfl⟩ ⟨Nat.zero_le _, Nat.zero_le _⟩ 3 rfl rfl [3, 4] rfl rfl rfl rfl (Nat.le_of_ble_eq_true rfl) dX5_isBroken_5 ?_
  refine kw_bipush X dX5_isBroken_8 cb_32 ?_
  refine kw_icmp_lt X 17 dX5_isBroken_10 (by decide) (fun q1 => ?_) (fun q1 => ?_)
  · replace hF := (if_pos q1).symm.trans hF
    refine kw_iconst X dX5_isBroken_17 ci_0 ?_
    obtain rfl := ti1 hF
    exact hret _ _ _ rfl dX5_isBroken_18
  · replace hF := (if_neg q1).symm.trans hF
    refine kw_iconst X dX5_isBroken_13 ci_1 ?_
    refine kw_goto X 18 dX5_isBroken_14 (by decide) ?_
    obtain rfl := ti1 hF
    exact hret _ _ _ rfl dX5_isBroken_18
-- X5_numberAt
def f_X5_numberAt (ta : Nat → Int32) (p1 : Int32) : Int32 :=
  (f_X2_at 24 ta p1)
abbrev rm_X5_numberAt : Room := { frames := 1, cells := 0, slots := 0, locals := 21 }
set_option maxHeartbeats 4000000 in
set_option maxRecDepth 100000 in
theorem c_X5_numberAt (l : Launch) (D : va_G) (cI cC cR : ClassId) (h0 h1 h2 h3 h4 h5 h6 h7 h8 : Nat) (sp : Nat → Int32) (we : Nat → Int32) (le : Nat → Int32) (ta : Nat → Int32) (num : Int32) (p1 : Int32) (r : Int32) (hF : f_X5_numberAt ta p1 = r) : MPi l yX5_numberAt cX5_numberAt 2 (some .int) rm_X5_numberAt D (TY cI cC cR) [.ref h0, .int p1] (wX5 cI h0 h1 h2 h3 h4 h5 h6 h7 h8 sp we le ta num) (.int r) := by
  refine me_p pn_X5 (Nat.le_of_ble_eq_true rfl) rfl (fun Γ X hret => ?_)
  unfold f_X5_numberAt at hF
  refine kw_aload_n X dX5_numberAt_0 rfl 0 rfl ?_
  refine kw_get X inX5 0 rfl rfl 3 (by decide) rfl gw_74 rfl dX5_numberAt_1 ?_
  refine kw_iload_n X dX5_numberAt_4 rfl 1 rfl ?_
  refine kw_vp X (r := .int (f_X2_at 24 ta p1)) (As := [.int p1]) (st := []) (c_X2_at l D cI cC cR h7 h8 24 (by decide) ta p1 (f_X2_at 24 ta p1) rfl) vl_X5_43 yv_X2_at ⟨Nat.le_of_ble_eq_true rfl, Nat.le_of_ble_eq_true rfl⟩ ⟨rfl, rfl⟩ ⟨Nat.zero_le _, Nat.zero_le _⟩ 7 rfl rfl [7, 8] rfl rfl rfl rfl (Nat.le_of_ble_eq_true rfl) dX5_numberAt_5 ?_
  obtain rfl := ti1 hF
  exact hret _ _ _ (vp_nar_int _) dX5_numberAt_8
-- X5_numberOfKind
def f_X5_numberOfKind_L4 (ta : Nat → Int32) (p1 : Int32) : Nat → Int32 → Int32 → Option (Int32)
  | 0, _, _ => none
  | F + 1, v2_12, v3_13 => (if 23 < v3_13 then (some (v2_12)) else (pl1 (if (f_X6_kindOf v3_13) = p1 then (v2_12 + (f_X5_numberAt ta v3_13)) else v2_12) (fun (v2_16 : Int32) => (f_X5_numberOfKind_L4 ta p1 F v2_16 (v3_13 + 1)))))
def f_X5_numberOfKind (Z : Nat) (ta : Nat → Int32) (p1 : Int32) : Option (Int32) :=
  (ob1 (f_X5_numberOfKind_L4 ta p1 Z 0 0) (fun (e11 : Int32) => (some e11)))
abbrev rm_X5_numberOfKind : Room := { frames := 2, cells := 0, slots := 0, locals := 42 }
set_option maxHeartbeats 4000000 in
set_option maxRecDepth 100000 in
theorem c_X5_numberOfKind (l : Launch) (D : va_G) (cI cC cR : ClassId) (h0 h1 h2 h3 h4 h5 h6 h7 h8 : Nat) (sp : Nat → Int32) (we : Nat → Int32) (le : Nat → Int32) (ta : Nat → Int32) (num : Int32) (p1 : Int32) (Z : Nat) (r : Int32) (hF : f_X5_numberOfKind Z ta p1 = some r) : MPi l yX5_numberOfKind cX5_numberOfKind 4 (some .int) rm_X5_numberOfKind D (TY cI cC cR) [.ref h0, .int p1] (wX5 cI h0 h1 h2 h3 h4 h5 h6 h7 h8 sp we le ta num) (.int r) := by
  refine me_p pn_X5 (Nat.le_of_ble_eq_true rfl) rfl (fun Γ X hret => ?_)
  unfold f_X5_numberOfKind at hF
  refine kw_iconst X dX5_numberOfKind_0 ci_0 ?_
  refine kw_istore_n (lo' := [(0, .ref h0), (1, .int p1), (2, .int 0)]) X dX5_numberOfKind_1 rfl (by decide) [1, 2, 0] rfl ?_
  refine kw_iconst X dX5_numberOfKind_2 ci_0 ?_
  refine kw_istore_n (lo' := [(0, .ref h0), (1, .int p1), (2, .int 0), (3, .int 0)]) X dX5_numberOfKind_3 rfl (by decide) [1, 2, 3, 0] rfl ?_
  obtain ⟨e11, hx, hF⟩ := ob1_ex hF
  have J : KW Γ 0 0 (wX5 cI h0 h1 h2 h3 h4 h5 h6 h7 h8 sp we le ta num) [(2, .int e11)] 32 [] := by
    refine kw_iload_n X dX5_numberOfKind_32 rfl 0 rfl ?_
    obtain rfl := si1 hF
    exact hret _ _ _ (vp_nar_int _) dX5_numberOfKind_33
  have hL4 : ∀ (F : Nat) (v2_12 : Int32) (v3_13 : Int32), f_X5_numberOfKind_L4 ta p1 F v2_12 v3_13 = some (e11) → KW Γ 0 0 (wX5 cI h0 h1 h2 h3 h4 h5 h6 h7 h8 sp we le ta num) [(0, .ref h0), (1, .int p1), (2, .int v2_12), (3, .int v3_13)] 4 [] := by
    intro F
    induction F with
    | zero => intro v2_12 v3_13 hF; exact none_some hF
    | succ F ih4 =>
      intro v2_12 v3_13 hF
      rw [f_X5_numberOfKind_L4] at hF
      refine kw_iload_n X dX5_numberOfKind_4 rfl 3 rfl ?_
      refine kw_bipush X dX5_numberOfKind_5 cb_23 ?_
      refine kw_icmp_gt X 32 dX5_numberOfKind_7 (by decide) (fun q14 => ?_) (fun q14 => ?_)
      · replace hF := (if_pos q14).symm.trans hF
        refine kw_loc (lo' := [(2, .int v2_12)]) [2] rfl ?_
        obtain rfl := si1 hF
        exact J
      · replace hF := (if_neg q14).symm.trans hF
        refine kw_iload_n X dX5_numberOfKind_10 rfl 3 rfl ?_
        refine kw_snp X (r := .int (f_X6_kindOf v3_13)) (As := [.int v3_13]) (st := []) (c_X6_kindOf l D cI cC cR  v3_13 (f_X6_kindOf v3_13) rfl) nw_28 vn_X5_47 yv_X6_kindOf ⟨Nat.le_of_ble_eq_true rfl, Nat.le_of_ble_eq_true rfl⟩ ⟨rfl, rfl⟩ ⟨Nat.zero_le _, Nat.zero_le _⟩ [] rfl rfl rfl rfl (Nat.le_of_ble_eq_true rfl) dX5_numberOfKind_11 ?_
        refine kw_iload_n X dX5_numberOfKind_14 rfl 1 rfl ?_
        obtain ⟨v2_16, hx17, hF⟩ := pl1_ex hF
        have J : KW Γ 0 0 (wX5 cI h0 h1 h2 h3 h4 h5 h6 h7 h8 sp we le ta num) [(0, .ref h0), (1, .int p1), (2, .int v2_16), (3, .int v3_13)] 26 [] := by
          refine kw_iinc (lo' := [(0, .ref h0), (1, .int p1), (2, .int v2_16), (3, .int (v3_13 + 1))]) X dX5_numberOfKind_26 3 rfl (congrArg (fun w => v3_13 + w) ci_1) (by decide) [1, 2, 3, 0] rfl ?_
          refine kw_goto X 4 dX5_numberOfKind_29 (by decide) ?_
          exact ih4 _ _ hF
        replace hF := hx17
        refine kw_icmp_ne X 26 dX5_numberOfKind_15 (by decide) (fun q15 => ?_) (fun q15 => ?_)
        · replace hF := (if_neg q15).symm.trans hF
          obtain rfl := ti1 hF
          exact J
        · replace hF := (if_pos q15).symm.trans hF
          refine kw_iload_n X dX5_numberOfKind_18 rfl 2 rfl ?_
          refine kw_aload_n X dX5_numberOfKind_19 rfl 0 rfl ?_
          refine kw_iload_n X dX5_numberOfKind_20 rfl 3 rfl ?_
          refine kw_ap X (r := .int (f_X5_numberAt ta v3_13)) (As := [.int v3_13]) (st := [.int v2_12]) (c_X5_numberAt l D cI cC cR h0 h1 h2 h3 h4 h5 h6 h7 h8 sp we le ta num v3_13 (f_X5_numberAt ta v3_13) rfl) vl_X5_50 yv_X5_numberAt ⟨Nat.le_of_ble_eq_true rfl, Nat.le_of_ble_eq_true rfl⟩ ⟨rfl, rfl⟩ ⟨Nat.zero_le _, Nat.zero_le _⟩ 0 rfl rfl rfl rfl (Nat.le_of_ble_eq_true rfl) dX5_numberOfKind_21 ?_
          refine kw_iadd X dX5_numberOfKind_24 ?_
          refine kw_istore_n (lo' := [(0, .ref h0), (1, .int p1), (2, .int (v2_12 + (f_X5_numberAt ta v3_13))), (3, .int v3_13)]) X dX5_numberOfKind_25 rfl (by decide) [1, 2, 0, 3] rfl ?_
          obtain rfl := ti1 hF
          exact J
  exact hL4 Z _ _ hx
-- X5_numberBroken
def f_X5_numberBroken_L4 (sp : Nat → Int32) (we : Nat → Int32) (num : Int32) : Nat → Int32 → Int32 → Option (Int32)
  | 0, _, _ => none
  | F + 1, v1_16, v2_17 => (if v2_17 < num then (pl1 (if (f_X5_isBroken we v2_17) = 0 then v1_16 else (if (f_X2_at 60 sp v2_17) = 23 then v1_16 else (v1_16 + 1))) (fun (v1_21 : Int32) => (f_X5_numberBroken_L4 sp we num F v1_21 (v2_17 + 1)))) else (some (v1_16)))
def f_X5_numberBroken (Z : Nat) (sp : Nat → Int32) (we : Nat → Int32) (num : Int32) : Option (Int32) :=
  (ob1 (f_X5_numberBroken_L4 sp we num Z 0 0) (fun (e15 : Int32) => (some e15)))
abbrev rm_X5_numberBroken : Room := { frames := 2, cells := 0, slots := 0, locals := 42 }
set_option maxHeartbeats 4000000 in
set_option maxRecDepth 100000 in
theorem c_X5_numberBroken (l : Launch) (D : va_G) (cI cC cR : ClassId) (h0 h1 h2 h3 h4 h5 h6 h7 h8 : Nat) (sp : Nat → Int32) (we : Nat → Int32) (le : Nat → Int32) (ta : Nat → Int32) (num : Int32) (Z : Nat) (r : Int32) (hF : f_X5_numberBroken Z sp we num = some r) : MPi l yX5_numberBroken cX5_numberBroken 3 (some .int) rm_X5_numberBroken D (TY cI cC cR) [.ref h0] (wX5 cI h0 h1 h2 h3 h4 h5 h6 h7 h8 sp we le ta num) (.int r) := by
  refine me_p pn_X5 (Nat.le_of_ble_eq_true rfl) rfl (fun Γ X hret => ?_)
  unfold f_X5_numberBroken at hF
  refine kw_iconst X dX5_numberBroken_0 ci_0 ?_
  refine kw_istore_n (lo' := [(0, .ref h0), (1, .int 0)]) X dX5_numberBroken_1 rfl (by decide) [1, 0] rfl ?_
  refine kw_iconst X dX5_numberBroken_2 ci_0 ?_
  refine kw_istore_n (lo' := [(0, .ref h0), (1, .int 0), (2, .int 0)]) X dX5_numberBroken_3 rfl (by decide) [1, 2, 0] rfl ?_
  obtain ⟨e15, hx, hF⟩ := ob1_ex hF
  have J : KW Γ 0 0 (wX5 cI h0 h1 h2 h3 h4 h5 h6 h7 h8 sp we le ta num) [(1, .int e15)] 42 [] := by
    refine kw_iload_n X dX5_numberBroken_42 rfl 0 rfl ?_
    obtain rfl := si1 hF
    exact hret _ _ _ (vp_nar_int _) dX5_numberBroken_43
  have hL4 : ∀ (F : Nat) (v1_16 : Int32) (v2_17 : Int32), f_X5_numberBroken_L4 sp we num F v1_16 v2_17 = some (e15) → KW Γ 0 0 (wX5 cI h0 h1 h2 h3 h4 h5 h6 h7 h8 sp we le ta num) [(0, .ref h0), (1, .int v1_16), (2, .int v2_17)] 4 [] := by
    intro F
    induction F with
    | zero => intro v1_16 v2_17 hF; exact none_some hF
    | succ F ih4 =>
      intro v1_16 v2_17 hF
      rw [f_X5_numberBroken_L4] at hF
      refine kw_iload_n X dX5_numberBroken_4 rfl 2 rfl ?_
      refine kw_aload_n X dX5_numberBroken_5 rfl 0 rfl ?_
      refine kw_get X inX5 0 rfl rfl 4 (by decide) rfl gw_75 rfl dX5_numberBroken_6 ?_
      refine kw_icmp_ge X 42 dX5_numberBroken_9 (by decide) (fun q18 => ?_) (fun q18 => ?_)
      · replace hF := (if_neg q18).symm.trans hF
        refine kw_loc (lo' := [(1, .int v1_16)]) [1] rfl ?_
        obtain rfl := si1 hF
        exact J
      · replace hF := (if_pos q18).symm.trans hF
        refine kw_aload_n X dX5_numberBroken_12 rfl 0 rfl ?_
        refine kw_iload_n X dX5_numberBroken_13 rfl 2 rfl ?_
        refine kw_ap X (r := .int (f_X5_isBroken we v2_17)) (As := [.int v2_17]) (st := []) (c_X5_isBroken l D cI cC cR h0 h1 h2 h3 h4 h5 h6 h7 h8 sp we le ta num v2_17 (f_X5_isBroken we v2_17) rfl) vl_X5_53 yv_X5_isBroken ⟨Nat.le_of_ble_eq_true rfl, Nat.le_of_ble_eq_true rfl⟩ ⟨rfl, rfl⟩ ⟨Nat.zero_le _, Nat.zero_le _⟩ 0 rfl rfl rfl rfl (Nat.le_of_ble_eq_true rfl) dX5_numberBroken_14 ?_
        obtain ⟨v1_21, hx22, hF⟩ := pl1_ex hF
        have J : KW Γ 0 0 (wX5 cI h0 h1 h2 h3 h4 h5 h6 h7 h8 sp we le ta num) [(0, .ref h0), (1, .int v1_21), (2, .int v2_17)] 36 [] := by
          refine kw_iinc (lo' := [(0, .ref h0), (1, .int v1_21), (2, .int (v2_17 + 1))]) X dX5_numberBroken_36 2 rfl (congrArg (fun w => v2_17 + w) ci_1) (by decide) [1, 2, 0] rfl ?_
          refine kw_goto X 4 dX5_numberBroken_39 (by decide) ?_
          exact ih4 _ _ hF
        replace hF := hx22
        refine kw_if_eq X 36 dX5_numberBroken_17 (by decide) (fun q19 => ?_) (fun q19 => ?_)
        · replace hF := (if_pos q19).symm.trans hF
          obtain rfl := ti1 hF
          exact J
        · replace hF := (if_neg q19).symm.trans hF
          refine kw_aload_n X dX5_numberBroken_20 rfl 0 rfl ?_
          refine kw_get X inX5 0 rfl rfl 0 (by decide) rfl gw_65 rfl dX5_numberBroken_21 ?_
          refine kw_iload_n X dX5_numberBroken_24 rfl 2 rfl ?_
          refine kw_vp X (r := .int (f_X2_at 60 sp v2_17)) (As := [.int v2_17]) (st := []) (c_X2_at l D cI cC cR h1 h2 60 (by decide) sp v2_17 (f_X2_at 60 sp v2_17) rfl) vl_X5_43 yv_X2_at ⟨Nat.le_of_ble_eq_true rfl, Nat.le_of_ble_eq_true rfl⟩ ⟨rfl, rfl⟩ ⟨Nat.zero_le _, Nat.zero_le _⟩ 1 rfl rfl [1, 2] rfl rfl rfl rfl (Nat.le_of_ble_eq_true rfl) dX5_numberBroken_25 ?_
          refine kw_bipush X dX5_numberBroken_28 cb_23 ?_
          refine kw_icmp_eq X 36 dX5_numberBroken_30 (by decide) (fun q23 => ?_) (fun q23 => ?_)
          · replace hF := (if_pos q23).symm.trans hF
            obtain rfl := ti1 hF
            exact J
          · replace hF := (if_neg q23).symm.trans hF
            refine kw_iinc (lo' := [(0, .ref h0), (1, .int (v1_16 + 1)), (2, .int v2_17)]) X dX5_numberBroken_33 1 rfl (congrArg (fun w => v1_16 + w) ci_1) (by decide) [1, 0, 2] rfl ?_
            obtain rfl := ti1 hF
            exact J
  exact hL4 Z _ _ hx
-- X5_brokenAt
def f_X5_brokenAt_L4 (sp : Nat → Int32) (we : Nat → Int32) (num : Int32) (p1 : Int32) : Nat → Int32 → Int32 → Option (Int32)
  | 0, _, _ => none
  | F + 1, v2_16, v3_17 => (if v3_17 < num then (pl1 (if (f_X2_at 60 sp v3_17) = p1 then (if (f_X5_isBroken we v3_17) = 0 then v2_16 else (v2_16 + 1)) else v2_16) (fun (v2_21 : Int32) => (f_X5_brokenAt_L4 sp we num p1 F v2_21 (v3_17 + 1)))) else (some (v2_16)))
def f_X5_brokenAt (Z : Nat) (sp : Nat → Int32) (we : Nat → Int32) (num : Int32) (p1 : Int32) : Option (Int32) :=
  (ob1 (f_X5_brokenAt_L4 sp we num p1 Z 0 0) (fun (e15 : Int32) => (some e15)))
abbrev rm_X5_brokenAt : Room := { frames := 2, cells := 0, slots := 0, locals := 42 }
set_option maxHeartbeats 4000000 in
set_option maxRecDepth 100000 in
theorem c_X5_brokenAt (l : Launch) (D : va_G) (cI cC cR : ClassId) (h0 h1 h2 h3 h4 h5 h6 h7 h8 : Nat) (sp : Nat → Int32) (we : Nat → Int32) (le : Nat → Int32) (ta : Nat → Int32) (num : Int32) (p1 : Int32) (Z : Nat) (r : Int32) (hF : f_X5_brokenAt Z sp we num p1 = some r) : MPi l yX5_brokenAt cX5_brokenAt 4 (some .int) rm_X5_brokenAt D (TY cI cC cR) [.ref h0, .int p1] (wX5 cI h0 h1 h2 h3 h4 h5 h6 h7 h8 sp we le ta num) (.int r) := by
  refine me_p pn_X5 (Nat.le_of_ble_eq_true rfl) rfl (fun Γ X hret => ?_)
  unfold f_X5_brokenAt at hF
  refine kw_iconst X dX5_brokenAt_0 ci_0 ?_
  refine kw_istore_n (lo' := [(0, .ref h0), (1, .int p1), (2, .int 0)]) X dX5_brokenAt_1 rfl (by decide) [1, 2, 0] rfl ?_
  refine kw_iconst X dX5_brokenAt_2 ci_0 ?_
  refine kw_istore_n (lo' := [(0, .ref h0), (1, .int p1), (2, .int 0), (3, .int 0)]) X dX5_brokenAt_3 rfl (by decide) [1, 2, 3, 0] rfl ?_
  obtain ⟨e15, hx, hF⟩ := ob1_ex hF
  have J : KW Γ 0 0 (wX5 cI h0 h1 h2 h3 h4 h5 h6 h7 h8 sp we le ta num) [(2, .int e15)] 41 [] := by
    refine kw_iload_n X dX5_brokenAt_41 rfl 0 rfl ?_
    obtain rfl := si1 hF
    exact hret _ _ _ (vp_nar_int _) dX5_brokenAt_42
  have hL4 : ∀ (F : Nat) (v2_16 : Int32) (v3_17 : Int32), f_X5_brokenAt_L4 sp we num p1 F v2_16 v3_17 = some (e15) → KW Γ 0 0 (wX5 cI h0 h1 h2 h3 h4 h5 h6 h7 h8 sp we le ta num) [(0, .ref h0), (1, .int p1), (2, .int v2_16), (3, .int v3_17)] 4 [] := by
    intro F
    induction F with
    | zero => intro v2_16 v3_17 hF; exact none_some hF
    | succ F ih4 =>
      intro v2_16 v3_17 hF
      rw [f_X5_brokenAt_L4] at hF
      refine kw_iload_n X dX5_brokenAt_4 rfl 3 rfl ?_
      refine kw_aload_n X dX5_brokenAt_5 rfl 0 rfl ?_
      refine kw_get X inX5 0 rfl rfl 4 (by decide) rfl gw_75 rfl dX5_brokenAt_6 ?_
      refine kw_icmp_ge X 41 dX5_brokenAt_9 (by decide) (fun q18 => ?_) (fun q18 => ?_)
      · replace hF := (if_neg q18).symm.trans hF
        refine kw_loc (lo' := [(2, .int v2_16)]) [2] rfl ?_
        obtain rfl := si1 hF
        exact J
      · replace hF := (if_pos q18).symm.trans hF
        refine kw_aload_n X dX5_brokenAt_12 rfl 0 rfl ?_
        refine kw_get X inX5 0 rfl rfl 0 (by decide) rfl gw_65 rfl dX5_brokenAt_13 ?_
        refine kw_iload_n X dX5_brokenAt_16 rfl 3 rfl ?_
        refine kw_vp X (r := .int (f_X2_at 60 sp v3_17)) (As := [.int v3_17]) (st := []) (c_X2_at l D cI cC cR h1 h2 60 (by decide) sp v3_17 (f_X2_at 60 sp v3_17) rfl) vl_X5_43 yv_X2_at ⟨Nat.le_of_ble_eq_true rfl, Nat.le_of_ble_eq_true rfl⟩ ⟨rfl, rfl⟩ ⟨Nat.zero_le _, Nat.zero_le _⟩ 1 rfl rfl [1, 2] rfl rfl rfl rfl (Nat.le_of_ble_eq_true rfl) dX5_brokenAt_17 ?_
        refine kw_iload_n X dX5_brokenAt_20 rfl 1 rfl ?_
        obtain ⟨v2_21, hx22, hF⟩ := pl1_ex hF
        have J : KW Γ 0 0 (wX5 cI h0 h1 h2 h3 h4 h5 h6 h7 h8 sp we le ta num) [(0, .ref h0), (1, .int p1), (2, .int v2_21), (3, .int v3_17)] 35 [] := by
          refine kw_iinc (lo' := [(0, .ref h0), (1, .int p1), (2, .int v2_21), (3, .int (v3_17 + 1))]) X dX5_brokenAt_35 3 rfl (congrArg (fun w => v3_17 + w) ci_1) (by decide) [1, 2, 3, 0] rfl ?_
          refine kw_goto X 4 dX5_brokenAt_38 (by decide) ?_
          exact ih4 _ _ hF
        replace hF := hx22
        refine kw_icmp_ne X 35 dX5_brokenAt_21 (by decide) (fun q19 => ?_) (fun q19 => ?_)
        · replace hF := (if_neg q19).symm.trans hF
          obtain rfl := ti1 hF
          exact J
        · replace hF := (if_pos q19).symm.trans hF
          refine kw_aload_n X dX5_brokenAt_24 rfl 0 rfl ?_
          refine kw_iload_n X dX5_brokenAt_25 rfl 3 rfl ?_
          refine kw_ap X (r := .int (f_X5_isBroken we v3_17)) (As := [.int v3_17]) (st := []) (c_X5_isBroken l D cI cC cR h0 h1 h2 h3 h4 h5 h6 h7 h8 sp we le ta num v3_17 (f_X5_isBroken we v3_17) rfl) vl_X5_53 yv_X5_isBroken ⟨Nat.le_of_ble_eq_true rfl, Nat.le_of_ble_eq_true rfl⟩ ⟨rfl, rfl⟩ ⟨Nat.zero_le _, Nat.zero_le _⟩ 0 rfl rfl rfl rfl (Nat.le_of_ble_eq_true rfl) dX5_brokenAt_26 ?_
          refine kw_if_eq X 35 dX5_brokenAt_29 (by decide) (fun q23 => ?_) (fun q23 => ?_)
          · replace hF := (if_pos q23).symm.trans hF
            obtain rfl := ti1 hF
            exact J
          · replace hF := (if_neg q23).symm.trans hF
            refine kw_iinc (lo' := [(0, .ref h0), (1, .int p1), (2, .int (v2_16 + 1)), (3, .int v3_17)]) X dX5_brokenAt_32 2 rfl (congrArg (fun w => v2_16 + w) ci_1) (by decide) [1, 2, 0, 3] rfl ?_
            obtain rfl := ti1 hF
            exact J
  exact hL4 Z _ _ hx
-- X5_wholeAt
def f_X5_wholeAt (Z : Nat) (sp : Nat → Int32) (we : Nat → Int32) (ta : Nat → Int32) (num : Int32) (p1 : Int32) : Option (Int32) :=
  (ob1 (f_X5_brokenAt Z sp we num p1) (fun (b1 : Int32) => (some ((f_X5_numberAt ta p1) - b1))))
abbrev rm_X5_wholeAt : Room := { frames := 3, cells := 0, slots := 0, locals := 65 }
set_option maxHeartbeats 4000000 in
set_option maxRecDepth 100000 in
theorem c_X5_wholeAt (l : Launch) (D : va_G) (cI cC cR : ClassId) (h0 h1 h2 h3 h4 h5 h6 h7 h8 : Nat) (sp : Nat → Int32) (we : Nat → Int32) (le : Nat → Int32) (ta : Nat → Int32) (num : Int32) (p1 : Int32) (Z : Nat) (r : Int32) (hF : f_X5_wholeAt Z sp we ta num p1 = some r) : MPi l yX5_wholeAt cX5_wholeAt 2 (some .int) rm_X5_wholeAt D (TY cI cC cR) [.ref h0, .int p1] (wX5 cI h0 h1 h2 h3 h4 h5 h6 h7 h8 sp we le ta num) (.int r) := by
  refine me_p pn_X5 (Nat.le_of_ble_eq_true rfl) rfl (fun Γ X hret => ?_)
  unfold f_X5_wholeAt at hF
  refine kw_aload_n X dX5_wholeAt_0 rfl 0 rfl ?_
  refine kw_iload_n X dX5_wholeAt_1 rfl 1 rfl ?_
  refine kw_ap X (r := .int (f_X5_numberAt ta p1)) (As := [.int p1]) (st := []) (c_X5_numberAt l D cI cC cR h0 h1 h2 h3 h4 h5 h6 h7 h8 sp we le ta num p1 (f_X5_numberAt ta p1) rfl) vl_X5_50 yv_X5_numberAt ⟨Nat.le_of_ble_eq_true rfl, Nat.le_of_ble_eq_true rfl⟩ ⟨rfl, rfl⟩ ⟨Nat.zero_le _, Nat.zero_le _⟩ 0 rfl rfl rfl rfl (Nat.le_of_ble_eq_true rfl) dX5_wholeAt_2 ?_
  refine kw_aload_n X dX5_wholeAt_5 rfl 0 rfl ?_
  refine kw_iload_n X dX5_wholeAt_6 rfl 1 rfl ?_
  obtain ⟨b1, hx1, hF⟩ := ob1_ex hF
  refine kw_ap X (r := .int b1) (As := [.int p1]) (st := [.int (f_X5_numberAt ta p1)]) (c_X5_brokenAt l D cI cC cR h0 h1 h2 h3 h4 h5 h6 h7 h8 sp we le ta num p1 Z b1 hx1) vl_X5_57 yv_X5_brokenAt ⟨Nat.le_of_ble_eq_true rfl, Nat.le_of_ble_eq_true rfl⟩ ⟨rfl, rfl⟩ ⟨Nat.zero_le _, Nat.zero_le _⟩ 0 rfl rfl rfl rfl (Nat.le_of_ble_eq_true rfl) dX5_wholeAt_7 ?_
  refine kw_isub X dX5_wholeAt_10 ?_
  obtain rfl := si1 hF
  exact hret _ _ _ (vp_nar_int _) dX5_wholeAt_11
-- X5_nthAt
def f_X5_nthAt_L5 (sp : Nat → Int32) (num : Int32) (p1 : Int32) (p2 : Int32) : Nat → Int32 → Int32 → Option (Int32)
  | 0, _, _ => none
  | F + 1, v3_9, v4_10 => (if v4_10 < num then (if (f_X2_at 60 sp v4_10) = p1 then (if v3_9 = p2 then (some v4_10) else (f_X5_nthAt_L5 sp num p1 p2 F (v3_9 + 1) (v4_10 + 1))) else (f_X5_nthAt_L5 sp num p1 p2 F v3_9 (v4_10 + 1))) else (some (-9)))
def f_X5_nthAt (Z : Nat) (sp : Nat → Int32) (num : Int32) (p1 : Int32) (p2 : Int32) : Option (Int32) :=
  (f_X5_nthAt_L5 sp num p1 p2 Z 0 0)
abbrev rm_X5_nthAt : Room := { frames := 1, cells := 0, slots := 0, locals := 21 }
set_option maxHeartbeats 4000000 in
set_option maxRecDepth 100000 in
theorem c_X5_nthAt (l : Launch) (D : va_G) (cI cC cR : ClassId) (h0 h1 h2 h3 h4 h5 h6 h7 h8 : Nat) (sp : Nat → Int32) (we : Nat → Int32) (le : Nat → Int32) (ta : Nat → Int32) (num : Int32) (p1 : Int32) (p2 : Int32) (Z : Nat) (r : Int32) (hF : f_X5_nthAt Z sp num p1 p2 = some r) : MPi l yX5_nthAt cX5_nthAt 5 (some .int) rm_X5_nthAt D (TY cI cC cR) [.ref h0, .int p1, .int p2] (wX5 cI h0 h1 h2 h3 h4 h5 h6 h7 h8 sp we le ta num) (.int r) := by
  refine me_p pn_X5 (Nat.le_of_ble_eq_true rfl) rfl (fun Γ X hret => ?_)
  unfold f_X5_nthAt at hF
  refine kw_iconst X dX5_nthAt_0 ci_0 ?_
  refine kw_istore_n (lo' := [(0, .ref h0), (1, .int p1), (2, .int p2), (3, .int 0)]) X dX5_nthAt_1 rfl (by decide) [1, 2, 3, 0] rfl ?_
  refine kw_iconst X dX5_nthAt_2 ci_0 ?_
  refine kw_istore (lo' := [(0, .ref h0), (1, .int p1), (2, .int p2), (3, .int 0), (4, .int 0)]) X dX5_nthAt_3 (by decide) [1, 2, 3, 4, 0] rfl ?_
  have hL5 : ∀ (F : Nat) (v3_9 : Int32) (v4_10 : Int32), f_X5_nthAt_L5 sp num p1 p2 F v3_9 v4_10 = some r → KW Γ 0 0 (wX5 cI h0 h1 h2 h3 h4 h5 h6 h7 h8 sp we le ta num) [(0, .ref h0), (1, .int p1), (2, .int p2), (3, .int v3_9), (4, .int v4_10)] 5 [] := by
    intro F
    induction F with
    | zero => intro v3_9 v4_10 hF; exact none_some hF
    | succ F ih5 =>
      intro v3_9 v4_10 hF
      rw [f_X5_nthAt_L5] at hF
      refine kw_iload X dX5_nthAt_5 4 rfl ?_
      refine kw_aload_n X dX5_nthAt_7 rfl 0 rfl ?_
      refine kw_get X inX5 0 rfl rfl 4 (by decide) rfl gw_75 rfl dX5_nthAt_8 ?_
      refine kw_icmp_ge X 44 dX5_nthAt_11 (by decide) (fun q11 => ?_) (fun q11 => ?_)
      · replace hF := (if_neg q11).symm.trans hF
        refine kw_bipush X dX5_nthAt_44 cb_m9 ?_
        obtain rfl := si1 hF
        exact hret _ _ _ (vp_nar_int _) dX5_nthAt_46
      · replace hF := (if_pos q11).symm.trans hF
        refine kw_aload_n X dX5_nthAt_14 rfl 0 rfl ?_
        refine kw_get X inX5 0 rfl rfl 0 (by decide) rfl gw_65 rfl dX5_nthAt_15 ?_
        refine kw_iload X dX5_nthAt_18 4 rfl ?_
        refine kw_vp X (r := .int (f_X2_at 60 sp v4_10)) (As := [.int v4_10]) (st := []) (c_X2_at l D cI cC cR h1 h2 60 (by decide) sp v4_10 (f_X2_at 60 sp v4_10) rfl) vl_X5_43 yv_X2_at ⟨Nat.le_of_ble_eq_true rfl, Nat.le_of_ble_eq_true rfl⟩ ⟨rfl, rfl⟩ ⟨Nat.zero_le _, Nat.zero_le _⟩ 1 rfl rfl [1, 2] rfl rfl rfl rfl (Nat.le_of_ble_eq_true rfl) dX5_nthAt_20 ?_
        refine kw_iload_n X dX5_nthAt_23 rfl 1 rfl ?_
        refine kw_icmp_ne X 38 dX5_nthAt_24 (by decide) (fun q12 => ?_) (fun q12 => ?_)
        · replace hF := (if_neg q12).symm.trans hF
          refine kw_iinc (lo' := [(0, .ref h0), (1, .int p1), (2, .int p2), (3, .int v3_9), (4, .int (v4_10 + 1))]) X dX5_nthAt_38 4 rfl (congrArg (fun w => v4_10 + w) ci_1) (by decide) [1, 2, 3, 4, 0] rfl ?_
          refine kw_goto X 5 dX5_nthAt_41 (by decide) ?_
          exact ih5 _ _ hF
        · replace hF := (if_pos q12).symm.trans hF
          refine kw_iload_n X dX5_nthAt_27 rfl 3 rfl ?_
          refine kw_iload_n X dX5_nthAt_28 rfl 2 rfl ?_
          refine kw_icmp_ne X 35 dX5_nthAt_29 (by decide) (fun q13 => ?_) (fun q13 => ?_)
          · replace hF := (if_neg q13).symm.trans hF
            refine kw_iinc (lo' := [(0, .ref h0), (1, .int p1), (2, .int p2), (3, .int (v3_9 + 1)), (4, .int v4_10)]) X dX5_nthAt_35 3 rfl (congrArg (fun w => v3_9 + w) ci_1) (by decide) [1, 2, 3, 0, 4] rfl ?_
            refine kw_iinc (lo' := [(0, .ref h0), (1, .int p1), (2, .int p2), (3, .int (v3_9 + 1)), (4, .int (v4_10 + 1))]) X dX5_nthAt_38 4 rfl (congrArg (fun w => v4_10 + w) ci_1) (by decide) [1, 2, 3, 4, 0] rfl ?_
            refine kw_goto X 5 dX5_nthAt_41 (by decide) ?_
            exact ih5 _ _ hF
          · replace hF := (if_pos q13).symm.trans hF
            refine kw_iload X dX5_nthAt_32 4 rfl ?_
            obtain rfl := si1 hF
            exact hret _ _ _ (vp_nar_int _) dX5_nthAt_34
  exact hL5 Z _ _ hF
-- X5_leastWornAt
def f_X5_leastWornAt_L7 (sp : Nat → Int32) (we : Nat → Int32) (num : Int32) (p1 : Int32) (p2 : Int32) (p3 : Int32) : Nat → Int32 → Int32 → Option (Int32)
  | 0, _, _ => none
  | F + 1, v4_32, v5_33 => (if v5_33 < num then (pl1 (if (f_X2_at 60 sp v5_33) = p1 then (if p2 < (f_X2_at 60 we v5_33) then 0 else (if v5_33 = p3 then 0 else 1)) else 0) (fun (x38 : Int32) => (pl1 (if x38 = 0 then v4_32 else (if v4_32 = (-9) then v5_33 else (if (f_X2_at 60 we v5_33) < (f_X2_at 60 we v4_32) then v5_33 else v4_32))) (fun (v4_43 : Int32) => (f_X5_leastWornAt_L7 sp we num p1 p2 p3 F v4_43 (v5_33 + 1)))))) else (some (v4_32)))
def f_X5_leastWornAt (Z : Nat) (sp : Nat → Int32) (we : Nat → Int32) (num : Int32) (p1 : Int32) (p2 : Int32) (p3 : Int32) : Option (Int32) :=
  (ob1 (f_X5_leastWornAt_L7 sp we num p1 p2 p3 Z (-9) 0) (fun (e31 : Int32) => (some e31)))
abbrev rm_X5_leastWornAt : Room := { frames := 1, cells := 0, slots := 0, locals := 21 }
set_option maxHeartbeats 4000000 in
set_option maxRecDepth 100000 in
theorem c_X5_leastWornAt (l : Launch) (D : va_G) (cI cC cR : ClassId) (h0 h1 h2 h3 h4 h5 h6 h7 h8 : Nat) (sp : Nat → Int32) (we : Nat → Int32) (le : Nat → Int32) (ta : Nat → Int32) (num : Int32) (p1 : Int32) (p2 : Int32) (p3 : Int32) (Z : Nat) (r : Int32) (hF : f_X5_leastWornAt Z sp we num p1 p2 p3 = some r) : MPi l yX5_leastWornAt cX5_leastWornAt 7 (some .int) rm_X5_leastWornAt D (TY cI cC cR) [.ref h0, .int p1, .int p2, .int p3] (wX5 cI h0 h1 h2 h3 h4 h5 h6 h7 h8 sp we le ta num) (.int r) := by
  refine me_p pn_X5 (Nat.le_of_ble_eq_true rfl) rfl (fun Γ X hret => ?_)
  unfold f_X5_leastWornAt at hF
  refine kw_bipush X dX5_leastWornAt_0 cb_m9 ?_
  refine kw_istore (lo' := [(0, .ref h0), (1, .int p1), (2, .int p2), (3, .int p3), (4, .int (-9))]) X dX5_leastWornAt_2 (by decide) [1, 2, 3, 4, 0] rfl ?_
  refine kw_iconst X dX5_leastWornAt_4 ci_0 ?_
  refine kw_istore (lo' := [(0, .ref h0), (1, .int p1), (2, .int p2), (3, .int p3), (4, .int (-9)), (5, .int 0)]) X dX5_leastWornAt_5 (by decide) [1, 2, 3, 4, 5, 0] rfl ?_
  obtain ⟨e31, hx, hF⟩ := ob1_ex hF
  have J : KW Γ 0 0 (wX5 cI h0 h1 h2 h3 h4 h5 h6 h7 h8 sp we le ta num) [(4, .int e31)] 98 [] := by
    refine kw_iload X dX5_leastWornAt_98 0 rfl ?_
    obtain rfl := si1 hF
    exact hret _ _ _ (vp_nar_int _) dX5_leastWornAt_100
  have hL7 : ∀ (F : Nat) (v4_32 : Int32) (v5_33 : Int32), f_X5_leastWornAt_L7 sp we num p1 p2 p3 F v4_32 v5_33 = some (e31) → KW Γ 0 0 (wX5 cI h0 h1 h2 h3 h4 h5 h6 h7 h8 sp we le ta num) [(0, .ref h0), (1, .int p1), (2, .int p2), (3, .int p3), (4, .int v4_32), (5, .int v5_33)] 7 [] := by
    intro F
    induction F with
    | zero => intro v4_32 v5_33 hF; exact none_some hF
    | succ F ih7 =>
      intro v4_32 v5_33 hF
      rw [f_X5_leastWornAt_L7] at hF
      refine kw_iload X dX5_leastWornAt_7 5 rfl ?_
      refine kw_aload_n X dX5_leastWornAt_9 rfl 0 rfl ?_
      refine kw_get X inX5 0 rfl rfl 4 (by decide) rfl gw_75 rfl dX5_leastWornAt_10 ?_
      refine kw_icmp_ge X 98 dX5_leastWornAt_13 (by decide) (fun q34 => ?_) (fun q34 => ?_)
      · replace hF := (if_neg q34).symm.trans hF
        refine kw_loc (lo' := [(4, .int v4_32)]) [4] rfl ?_
        obtain rfl := si1 hF
        exact J
      · replace hF := (if_pos q34).symm.trans hF
        refine kw_aload_n X dX5_leastWornAt_16 rfl 0 rfl ?_
        refine kw_get X inX5 0 rfl rfl 0 (by decide) rfl gw_65 rfl dX5_leastWornAt_17 ?_
        refine kw_iload X dX5_leastWornAt_20 5 rfl ?_
        refine kw_vp X (r := .int (f_X2_at 60 sp v5_33)) (As := [.int v5_33]) (st := []) (c_X2_at l D cI cC cR h1 h2 60 (by decide) sp v5_33 (f_X2_at 60 sp v5_33) rfl) vl_X5_43 yv_X2_at ⟨Nat.le_of_ble_eq_true rfl, Nat.le_of_ble_eq_true rfl⟩ ⟨rfl, rfl⟩ ⟨Nat.zero_le _, Nat.zero_le _⟩ 1 rfl rfl [1, 2] rfl rfl rfl rfl (Nat.le_of_ble_eq_true rfl) dX5_leastWornAt_22 ?_
        refine kw_iload_n X dX5_leastWornAt_25 rfl 1 rfl ?_
        obtain ⟨x38, hx39, hF⟩ := pl1_ex hF
        have J : KW Γ 0 0 (wX5 cI h0 h1 h2 h3 h4 h5 h6 h7 h8 sp we le ta num) [(0, .ref h0), (1, .int p1), (2, .int p2), (3, .int p3), (4, .int v4_32), (5, .int v5_33)] 53 [.int x38] := by
          refine kw_istore (lo' := [(0, .ref h0), (1, .int p1), (2, .int p2), (3, .int p3), (4, .int v4_32), (5, .int v5_33), (6, .int x38)]) X dX5_leastWornAt_53 (by decide) [1, 2, 3, 4, 5, 6, 0] rfl ?_
          refine kw_iload X dX5_leastWornAt_55 6 rfl ?_
          obtain ⟨v4_43, hx44, hF⟩ := pl1_ex hF
          have J : KW Γ 0 0 (wX5 cI h0 h1 h2 h3 h4 h5 h6 h7 h8 sp we le ta num) [(0, .ref h0), (1, .int p1), (2, .int p2), (3, .int p3), (4, .int v4_43), (5, .int v5_33)] 92 [] := by
            refine kw_iinc (lo' := [(0, .ref h0), (1, .int p1), (2, .int p2), (3, .int p3), (4, .int v4_43), (5, .int (v5_33 + 1))]) X dX5_leastWornAt_92 5 rfl (congrArg (fun w => v5_33 + w) ci_1) (by decide) [1, 2, 3, 4, 5, 0] rfl ?_
            refine kw_goto X 7 dX5_leastWornAt_95 (by decide) ?_
            exact ih7 _ _ hF
          replace hF := hx44
          refine kw_if_eq X 92 dX5_leastWornAt_57 (by decide) (fun q40 => ?_) (fun q40 => ?_)
          · replace hF := (if_pos q40).symm.trans hF
            refine kw_loc (lo' := [(0, .ref h0), (1, .int p1), (2, .int p2), (3, .int p3), (4, .int v4_32), (5, .int v5_33)]) [0, 1, 2, 3, 4, 5] rfl ?_
            obtain rfl := ti1 hF
            exact J
          · replace hF := (if_neg q40).symm.trans hF
            refine kw_iload X dX5_leastWornAt_60 4 rfl ?_
            refine kw_bipush X dX5_leastWornAt_62 cb_m9 ?_
            refine kw_icmp_eq X 88 dX5_leastWornAt_64 (by decide) (fun q45 => ?_) (fun q45 => ?_)
            · replace hF := (if_pos q45).symm.trans hF
              refine kw_iload X dX5_leastWornAt_88 5 rfl ?_
              refine kw_istore (lo' := [(0, .ref h0), (1, .int p1), (2, .int p2), (3, .int p3), (4, .int v5_33), (5, .int v5_33), (6, .int x38)]) X dX5_leastWornAt_90 (by decide) [1, 2, 3, 4, 0, 5, 6] rfl ?_
              refine kw_loc (lo' := [(0, .ref h0), (1, .int p1), (2, .int p2), (3, .int p3), (4, .int v5_33), (5, .int v5_33)]) [0, 1, 2, 3, 4, 5] rfl ?_
              obtain rfl := ti1 hF
              exact J
            · replace hF := (if_neg q45).symm.trans hF
              refine kw_aload_n X dX5_leastWornAt_67 rfl 0 rfl ?_
              refine kw_get X inX5 0 rfl rfl 1 (by decide) rfl gw_68 rfl dX5_leastWornAt_68 ?_
              refine kw_iload X dX5_leastWornAt_71 5 rfl ?_
              refine kw_vp X (r := .int (f_X2_at 60 we v5_33)) (As := [.int v5_33]) (st := []) (c_X2_at l D cI cC cR h3 h4 60 (by decide) we v5_33 (f_X2_at 60 we v5_33) rfl) vl_X5_43 yv_X2_at ⟨Nat.le_of_ble_eq_true rfl, Nat.le_of_ble_eq_true rfl⟩ ⟨rfl, rfl⟩ ⟨Nat.zero_le _, Nat.zero_le _⟩ 3 rfl rfl [3, 4] rfl rfl rfl rfl (Nat.le_of_ble_eq_true rfl) dX5_leastWornAt_73 ?_
              refine kw_aload_n X dX5_leastWornAt_76 rfl 0 rfl ?_
              refine kw_get X inX5 0 rfl rfl 1 (by decide) rfl gw_68 rfl dX5_leastWornAt_77 ?_
              refine kw_iload X dX5_leastWornAt_80 4 rfl ?_
              refine kw_vp X (r := .int (f_X2_at 60 we v4_32)) (As := [.int v4_32]) (st := [.int (f_X2_at 60 we v5_33)]) (c_X2_at l D cI cC cR h3 h4 60 (by decide) we v4_32 (f_X2_at 60 we v4_32) rfl) vl_X5_43 yv_X2_at ⟨Nat.le_of_ble_eq_true rfl, Nat.le_of_ble_eq_true rfl⟩ ⟨rfl, rfl⟩ ⟨Nat.zero_le _, Nat.zero_le _⟩ 3 rfl rfl [3, 4] rfl rfl rfl rfl (Nat.le_of_ble_eq_true rfl) dX5_leastWornAt_82 ?_
              refine kw_icmp_ge X 92 dX5_leastWornAt_85 (by decide) (fun q46 => ?_) (fun q46 => ?_)
              · replace hF := (if_neg q46).symm.trans hF
                refine kw_loc (lo' := [(0, .ref h0), (1, .int p1), (2, .int p2), (3, .int p3), (4, .int v4_32), (5, .int v5_33)]) [0, 1, 2, 3, 4, 5] rfl ?_
                obtain rfl := ti1 hF
                exact J
              · replace hF := (if_pos q46).symm.trans hF
                refine kw_iload X dX5_leastWornAt_88 5 rfl ?_
                refine kw_istore (lo' := [(0, .ref h0), (1, .int p1), (2, .int p2), (3, .int p3), (4, .int v5_33), (5, .int v5_33), (6, .int x38)]) X dX5_leastWornAt_90 (by decide) [1, 2, 3, 4, 0, 5, 6] rfl ?_
                refine kw_loc (lo' := [(0, .ref h0), (1, .int p1), (2, .int p2), (3, .int p3), (4, .int v5_33), (5, .int v5_33)]) [0, 1, 2, 3, 4, 5] rfl ?_
                obtain rfl := ti1 hF
                exact J
        replace hF := hx39
        refine kw_icmp_ne X 52 dX5_leastWornAt_26 (by decide) (fun q35 => ?_) (fun q35 => ?_)
        · replace hF := (if_neg q35).symm.trans hF
          refine kw_iconst X dX5_leastWornAt_52 ci_0 ?_
          obtain rfl := ti1 hF
          exact J
        · replace hF := (if_pos q35).symm.trans hF
          refine kw_aload_n X dX5_leastWornAt_29 rfl 0 rfl ?_
          refine kw_get X inX5 0 rfl rfl 1 (by decide) rfl gw_68 rfl dX5_leastWornAt_30 ?_
          refine kw_iload X dX5_leastWornAt_33 5 rfl ?_
          refine kw_vp X (r := .int (f_X2_at 60 we v5_33)) (As := [.int v5_33]) (st := []) (c_X2_at l D cI cC cR h3 h4 60 (by decide) we v5_33 (f_X2_at 60 we v5_33) rfl) vl_X5_43 yv_X2_at ⟨Nat.le_of_ble_eq_true rfl, Nat.le_of_ble_eq_true rfl⟩ ⟨rfl, rfl⟩ ⟨Nat.zero_le _, Nat.zero_le _⟩ 3 rfl rfl [3, 4] rfl rfl rfl rfl (Nat.le_of_ble_eq_true rfl) dX5_leastWornAt_35 ?_
          refine kw_iload_n X dX5_leastWornAt_38 rfl 2 rfl ?_
          refine kw_icmp_gt X 52 dX5_leastWornAt_39 (by decide) (fun q47 => ?_) (fun q47 => ?_)
          · replace hF := (if_pos q47).symm.trans hF
            refine kw_iconst X dX5_leastWornAt_52 ci_0 ?_
            obtain rfl := ti1 hF
            exact J
          · replace hF := (if_neg q47).symm.trans hF
            refine kw_iload X dX5_leastWornAt_42 5 rfl ?_
            refine kw_iload_n X dX5_leastWornAt_44 rfl 3 rfl ?_
            refine kw_icmp_eq X 52 dX5_leastWornAt_45 (by decide) (fun q48 => ?_) (fun q48 => ?_)
            · replace hF := (if_pos q48).symm.trans hF
              refine kw_iconst X dX5_leastWornAt_52 ci_0 ?_
              obtain rfl := ti1 hF
              exact J
            · replace hF := (if_neg q48).symm.trans hF
              refine kw_iconst X dX5_leastWornAt_48 ci_1 ?_
              refine kw_goto X 53 dX5_leastWornAt_49 (by decide) ?_
              obtain rfl := ti1 hF
              exact J
  exact hL7 Z _ _ hx
-- X5_bestAt
def f_X5_bestAt (Z : Nat) (sp : Nat → Int32) (we : Nat → Int32) (num : Int32) (p1 : Int32) : Option (Int32) :=
  (ob1 (f_X5_leastWornAt Z sp we num p1 31 (-9)) (fun (b1 : Int32) => (some b1)))
abbrev rm_X5_bestAt : Room := { frames := 2, cells := 0, slots := 0, locals := 47 }
set_option maxHeartbeats 4000000 in
set_option maxRecDepth 100000 in
theorem c_X5_bestAt (l : Launch) (D : va_G) (cI cC cR : ClassId) (h0 h1 h2 h3 h4 h5 h6 h7 h8 : Nat) (sp : Nat → Int32) (we : Nat → Int32) (le : Nat → Int32) (ta : Nat → Int32) (num : Int32) (p1 : Int32) (Z : Nat) (r : Int32) (hF : f_X5_bestAt Z sp we num p1 = some r) : MPi l yX5_bestAt cX5_bestAt 2 (some .int) rm_X5_bestAt D (TY cI cC cR) [.ref h0, .int p1] (wX5 cI h0 h1 h2 h3 h4 h5 h6 h7 h8 sp we le ta num) (.int r) := by
  refine me_p pn_X5 (Nat.le_of_ble_eq_true rfl) rfl (fun Γ X hret => ?_)
  unfold f_X5_bestAt at hF
  refine kw_aload_n X dX5_bestAt_0 rfl 0 rfl ?_
  refine kw_iload_n X dX5_bestAt_1 rfl 1 rfl ?_
  refine kw_bipush X dX5_bestAt_2 cb_31 ?_
  refine kw_bipush X dX5_bestAt_4 cb_m9 ?_
  obtain ⟨b1, hx1, hF⟩ := ob1_ex hF
  refine kw_ap X (r := .int b1) (As := [.int p1, .int 31, .int (-9)]) (st := []) (c_X5_leastWornAt l D cI cC cR h0 h1 h2 h3 h4 h5 h6 h7 h8 sp we le ta num p1 31 (-9) Z b1 hx1) vl_X5_60 yv_X5_leastWornAt ⟨Nat.le_of_ble_eq_true rfl, Nat.le_of_ble_eq_true rfl⟩ ⟨rfl, rfl⟩ ⟨Nat.zero_le _, Nat.zero_le _⟩ 0 rfl rfl rfl rfl (Nat.le_of_ble_eq_true rfl) dX5_bestAt_6 ?_
  obtain rfl := si1 hF
  exact hret _ _ _ (vp_nar_int _) dX5_bestAt_9
-- X5_worstAt
def f_X5_worstAt_L5 (sp : Nat → Int32) (we : Nat → Int32) (num : Int32) (p1 : Int32) : Nat → Int32 → Int32 → Option (Int32)
  | 0, _, _ => none
  | F + 1, v2_18, v3_19 => (if v3_19 < num then (pl1 (if (f_X2_at 60 sp v3_19) = p1 then (if v2_18 = (-9) then v3_19 else (if (f_X2_at 60 we v2_18) < (f_X2_at 60 we v3_19) then v3_19 else v2_18)) else v2_18) (fun (v2_24 : Int32) => (f_X5_worstAt_L5 sp we num p1 F v2_24 (v3_19 + 1)))) else (some (v2_18)))
def f_X5_worstAt (Z : Nat) (sp : Nat → Int32) (we : Nat → Int32) (num : Int32) (p1 : Int32) : Option (Int32) :=
  (ob1 (f_X5_worstAt_L5 sp we num p1 Z (-9) 0) (fun (e17 : Int32) => (some e17)))
abbrev rm_X5_worstAt : Room := { frames := 1, cells := 0, slots := 0, locals := 21 }
set_option maxHeartbeats 4000000 in
set_option maxRecDepth 100000 in
theorem c_X5_worstAt (l : Launch) (D : va_G) (cI cC cR : ClassId) (h0 h1 h2 h3 h4 h5 h6 h7 h8 : Nat) (sp : Nat → Int32) (we : Nat → Int32) (le : Nat → Int32) (ta : Nat → Int32) (num : Int32) (p1 : Int32) (Z : Nat) (r : Int32) (hF : f_X5_worstAt Z sp we num p1 = some r) : MPi l yX5_worstAt cX5_worstAt 4 (some .int) rm_X5_worstAt D (TY cI cC cR) [.ref h0, .int p1] (wX5 cI h0 h1 h2 h3 h4 h5 h6 h7 h8 sp we le ta num) (.int r) := by
  refine me_p pn_X5 (Nat.le_of_ble_eq_true rfl) rfl (fun Γ X hret => ?_)
  unfold f_X5_worstAt at hF
  refine kw_bipush X dX5_worstAt_0 cb_m9 ?_
  refine kw_istore_n (lo' := [(0, .ref h0), (1, .int p1), (2, .int (-9))]) X dX5_worstAt_2 rfl (by decide) [1, 2, 0] rfl ?_
  refine kw_iconst X dX5_worstAt_3 ci_0 ?_
  refine kw_istore_n (lo' := [(0, .ref h0), (1, .int p1), (2, .int (-9)), (3, .int 0)]) X dX5_worstAt_4 rfl (by decide) [1, 2, 3, 0] rfl ?_
  obtain ⟨e17, hx, hF⟩ := ob1_ex hF
  have J : KW Γ 0 0 (wX5 cI h0 h1 h2 h3 h4 h5 h6 h7 h8 sp we le ta num) [(2, .int e17)] 58 [] := by
    refine kw_iload_n X dX5_worstAt_58 rfl 0 rfl ?_
    obtain rfl := si1 hF
    exact hret _ _ _ (vp_nar_int _) dX5_worstAt_59
  have hL5 : ∀ (F : Nat) (v2_18 : Int32) (v3_19 : Int32), f_X5_worstAt_L5 sp we num p1 F v2_18 v3_19 = some (e17) → KW Γ 0 0 (wX5 cI h0 h1 h2 h3 h4 h5 h6 h7 h8 sp we le ta num) [(0, .ref h0), (1, .int p1), (2, .int v2_18), (3, .int v3_19)] 5 [] := by
    intro F
    induction F with
    | zero => intro v2_18 v3_19 hF; exact none_some hF
    | succ F ih5 =>
      intro v2_18 v3_19 hF
      rw [f_X5_worstAt_L5] at hF
      refine kw_iload_n X dX5_worstAt_5 rfl 3 rfl ?_
      refine kw_aload_n X dX5_worstAt_6 rfl 0 rfl ?_
      refine kw_get X inX5 0 rfl rfl 4 (by decide) rfl gw_75 rfl dX5_worstAt_7 ?_
      refine kw_icmp_ge X 58 dX5_worstAt_10 (by decide) (fun q20 => ?_) (fun q20 => ?_)
      · replace hF := (if_neg q20).symm.trans hF
        refine kw_loc (lo' := [(2, .int v2_18)]) [2] rfl ?_
        obtain rfl := si1 hF
        exact J
      · replace hF := (if_pos q20).symm.trans hF
        refine kw_aload_n X dX5_worstAt_13 rfl 0 rfl ?_
        refine kw_get X inX5 0 rfl rfl 0 (by decide) rfl gw_65 rfl dX5_worstAt_14 ?_
        refine kw_iload_n X dX5_worstAt_17 rfl 3 rfl ?_
        refine kw_vp X (r := .int (f_X2_at 60 sp v3_19)) (As := [.int v3_19]) (st := []) (c_X2_at l D cI cC cR h1 h2 60 (by decide) sp v3_19 (f_X2_at 60 sp v3_19) rfl) vl_X5_43 yv_X2_at ⟨Nat.le_of_ble_eq_true rfl, Nat.le_of_ble_eq_true rfl⟩ ⟨rfl, rfl⟩ ⟨Nat.zero_le _, Nat.zero_le _⟩ 1 rfl rfl [1, 2] rfl rfl rfl rfl (Nat.le_of_ble_eq_true rfl) dX5_worstAt_18 ?_
        refine kw_iload_n X dX5_worstAt_21 rfl 1 rfl ?_
        obtain ⟨v2_24, hx25, hF⟩ := pl1_ex hF
        have J : KW Γ 0 0 (wX5 cI h0 h1 h2 h3 h4 h5 h6 h7 h8 sp we le ta num) [(0, .ref h0), (1, .int p1), (2, .int v2_24), (3, .int v3_19)] 52 [] := by
          refine kw_iinc (lo' := [(0, .ref h0), (1, .int p1), (2, .int v2_24), (3, .int (v3_19 + 1))]) X dX5_worstAt_52 3 rfl (congrArg (fun w => v3_19 + w) ci_1) (by decide) [1, 2, 3, 0] rfl ?_
          refine kw_goto X 5 dX5_worstAt_55 (by decide) ?_
          exact ih5 _ _ hF
        replace hF := hx25
        refine kw_icmp_ne X 52 dX5_worstAt_22 (by decide) (fun q21 => ?_) (fun q21 => ?_)
        · replace hF := (if_neg q21).symm.trans hF
          obtain rfl := ti1 hF
          exact J
        · replace hF := (if_pos q21).symm.trans hF
          refine kw_iload_n X dX5_worstAt_25 rfl 2 rfl ?_
          refine kw_bipush X dX5_worstAt_26 cb_m9 ?_
          refine kw_icmp_eq X 50 dX5_worstAt_28 (by decide) (fun q26 => ?_) (fun q26 => ?_)
          · replace hF := (if_pos q26).symm.trans hF
            refine kw_iload_n X dX5_worstAt_50 rfl 3 rfl ?_
            refine kw_istore_n (lo' := [(0, .ref h0), (1, .int p1), (2, .int v3_19), (3, .int v3_19)]) X dX5_worstAt_51 rfl (by decide) [1, 2, 0, 3] rfl ?_
            obtain rfl := ti1 hF
            exact J
          · replace hF := (if_neg q26).symm.trans hF
            refine kw_aload_n X dX5_worstAt_31 rfl 0 rfl ?_
            refine kw_get X inX5 0 rfl rfl 1 (by decide) rfl gw_68 rfl dX5_worstAt_32 ?_
            refine kw_iload_n X dX5_worstAt_35 rfl 3 rfl ?_
            refine kw_vp X (r := .int (f_X2_at 60 we v3_19)) (As := [.int v3_19]) (st := []) (c_X2_at l D cI cC cR h3 h4 60 (by decide) we v3_19 (f_X2_at 60 we v3_19) rfl) vl_X5_43 yv_X2_at ⟨Nat.le_of_ble_eq_true rfl, Nat.le_of_ble_eq_true rfl⟩ ⟨rfl, rfl⟩ ⟨Nat.zero_le _, Nat.zero_le _⟩ 3 rfl rfl [3, 4] rfl rfl rfl rfl (Nat.le_of_ble_eq_true rfl) dX5_worstAt_36 ?_
            refine kw_aload_n X dX5_worstAt_39 rfl 0 rfl ?_
            refine kw_get X inX5 0 rfl rfl 1 (by decide) rfl gw_68 rfl dX5_worstAt_40 ?_
            refine kw_iload_n X dX5_worstAt_43 rfl 2 rfl ?_
            refine kw_vp X (r := .int (f_X2_at 60 we v2_18)) (As := [.int v2_18]) (st := [.int (f_X2_at 60 we v3_19)]) (c_X2_at l D cI cC cR h3 h4 60 (by decide) we v2_18 (f_X2_at 60 we v2_18) rfl) vl_X5_43 yv_X2_at ⟨Nat.le_of_ble_eq_true rfl, Nat.le_of_ble_eq_true rfl⟩ ⟨rfl, rfl⟩ ⟨Nat.zero_le _, Nat.zero_le _⟩ 3 rfl rfl [3, 4] rfl rfl rfl rfl (Nat.le_of_ble_eq_true rfl) dX5_worstAt_44 ?_
            refine kw_icmp_le X 52 dX5_worstAt_47 (by decide) (fun q27 => ?_) (fun q27 => ?_)
            · replace hF := (if_neg q27).symm.trans hF
              obtain rfl := ti1 hF
              exact J
            · replace hF := (if_pos q27).symm.trans hF
              refine kw_iload_n X dX5_worstAt_50 rfl 3 rfl ?_
              refine kw_istore_n (lo' := [(0, .ref h0), (1, .int p1), (2, .int v3_19), (3, .int v3_19)]) X dX5_worstAt_51 rfl (by decide) [1, 2, 0, 3] rfl ?_
              obtain rfl := ti1 hF
              exact J
  exact hL5 Z _ _ hx
-- X5_meanWearAt
def f_X5_meanWearAt_L17 (sp : Nat → Int32) (we : Nat → Int32) (num : Int32) (p1 : Int32) : Nat → Int32 → Int32 → Option (Int32)
  | 0, _, _ => none
  | F + 1, v3_14, v4_15 => (if v4_15 < num then (pl1 (if (f_X2_at 60 sp v4_15) = p1 then (v3_14 + (f_X2_at 60 we v4_15)) else v3_14) (fun (v3_18 : Int32) => (f_X5_meanWearAt_L17 sp we num p1 F v3_18 (v4_15 + 1)))) else (some (v3_14)))
def f_X5_meanWearAt (Z : Nat) (sp : Nat → Int32) (we : Nat → Int32) (ta : Nat → Int32) (num : Int32) (p1 : Int32) : Option (Int32) :=
  (if 0 < (f_X5_numberAt ta p1) then (ob1 (f_X5_meanWearAt_L17 sp we num p1 Z 0 0) (fun (e12 : Int32) => ob1 (odiv (100 * e12) (8 * (f_X5_numberAt ta p1))) (fun d13 => (some ((100 * e12) / (8 * (f_X5_numberAt ta p1))))))) else (some 0))
abbrev rm_X5_meanWearAt : Room := { frames := 2, cells := 0, slots := 0, locals := 42 }
set_option maxHeartbeats 4000000 in
set_option maxRecDepth 100000 in
theorem c_X5_meanWearAt (l : Launch) (D : va_G) (cI cC cR : ClassId) (h0 h1 h2 h3 h4 h5 h6 h7 h8 : Nat) (sp : Nat → Int32) (we : Nat → Int32) (le : Nat → Int32) (ta : Nat → Int32) (num : Int32) (p1 : Int32) (Z : Nat) (r : Int32) (hF : f_X5_meanWearAt Z sp we ta num p1 = some r) : MPi l yX5_meanWearAt cX5_meanWearAt 5 (some .int) rm_X5_meanWearAt D (TY cI cC cR) [.ref h0, .int p1] (wX5 cI h0 h1 h2 h3 h4 h5 h6 h7 h8 sp we le ta num) (.int r) := by
  refine me_p pn_X5 (Nat.le_of_ble_eq_true rfl) rfl (fun Γ X hret => ?_)
  unfold f_X5_meanWearAt at hF
  refine kw_aload_n X dX5_meanWearAt_0 rfl 0 rfl ?_
  refine kw_iload_n X dX5_meanWearAt_1 rfl 1 rfl ?_
  refine kw_ap X (r := .int (f_X5_numberAt ta p1)) (As := [.int p1]) (st := []) (c_X5_numberAt l D cI cC cR h0 h1 h2 h3 h4 h5 h6 h7 h8 sp we le ta num p1 (f_X5_numberAt ta p1) rfl) vl_X5_50 yv_X5_numberAt ⟨Nat.le_of_ble_eq_true rfl, Nat.le_of_ble_eq_true rfl⟩ ⟨rfl, rfl⟩ ⟨Nat.zero_le _, Nat.zero_le _⟩ 0 rfl rfl rfl rfl (Nat.le_of_ble_eq_true rfl) dX5_meanWearAt_2 ?_
  refine kw_istore_n (lo' := [(0, .ref h0), (1, .int p1), (2, .int (f_X5_numberAt ta p1))]) X dX5_meanWearAt_5 rfl (by decide) [1, 2, 0] rfl ?_
  refine kw_iload_n X dX5_meanWearAt_6 rfl 2 rfl ?_
  refine kw_if_gt X 12 dX5_meanWearAt_7 (by decide) (fun q1 => ?_) (fun q1 => ?_)
  · replace hF := (if_pos q1).symm.trans hF
    refine kw_iconst X dX5_meanWearAt_12 ci_0 ?_
    refine kw_istore_n (lo' := [(0, .ref h0), (1, .int p1), (2, .int (f_X5_numberAt ta p1)), (3, .int 0)]) X dX5_meanWearAt_13 rfl (by decide) [1, 2, 3, 0] rfl ?_
    refine kw_iconst X dX5_meanWearAt_14 ci_0 ?_
    refine kw_istore (lo' := [(0, .ref h0), (1, .int p1), (2, .int (f_X5_numberAt ta p1)), (3, .int 0), (4, .int 0)]) X dX5_meanWearAt_15 (by decide) [1, 2, 3, 4, 0] rfl ?_
    obtain ⟨e12, hx, hF⟩ := ob1_ex hF
    have J : KW Γ 0 0 (wX5 cI h0 h1 h2 h3 h4 h5 h6 h7 h8 sp we le ta num) [(2, .int (f_X5_numberAt ta p1)), (3, .int e12)] 57 [] := by
      refine kw_bipush X dX5_meanWearAt_57 cb_100 ?_
      refine kw_iload_n X dX5_meanWearAt_59 rfl 1 rfl ?_
      refine kw_imul X dX5_meanWearAt_60 ?_
      refine kw_bipush X dX5_meanWearAt_61 cb_8 ?_
      refine kw_iload_n X dX5_meanWearAt_63 rfl 0 rfl ?_
      refine kw_imul X dX5_meanWearAt_64 ?_
      obtain ⟨d13, hx, hF⟩ := ob1_ex hF
      obtain ⟨hnz, rfl⟩ := odiv_ex hx
      refine kw_idiv X dX5_meanWearAt_65 hnz ?_
      obtain rfl := si1 hF
      exact hret _ _ _ (vp_nar_int _) dX5_meanWearAt_66
    have hL17 : ∀ (F : Nat) (v3_14 : Int32) (v4_15 : Int32), f_X5_meanWearAt_L17 sp we num p1 F v3_14 v4_15 = some (e12) → KW Γ 0 0 (wX5 cI h0 h1 h2 h3 h4 h5 h6 h7 h8 sp we le ta num) [(0, .ref h0), (1, .int p1), (2, .int (f_X5_numberAt ta p1)), (3, .int v3_14), (4, .int v4_15)] 17 [] := by
      intro F
      induction F with
      | zero => intro v3_14 v4_15 hF; exact none_some hF
      | succ F ih17 =>
        intro v3_14 v4_15 hF
        rw [f_X5_meanWearAt_L17] at hF
        refine kw_iload X dX5_meanWearAt_17 4 rfl ?_
        refine kw_aload_n X dX5_meanWearAt_19 rfl 0 rfl ?_
        refine kw_get X inX5 0 rfl rfl 4 (by decide) rfl gw_75 rfl dX5_meanWearAt_20 ?_
        refine kw_icmp_ge X 57 dX5_meanWearAt_23 (by decide) (fun q16 => ?_) (fun q16 => ?_)
        · replace hF := (if_neg q16).symm.trans hF
          refine kw_loc (lo' := [(2, .int (f_X5_numberAt ta p1)), (3, .int v3_14)]) [2, 3] rfl ?_
          obtain rfl := si1 hF
          exact J
        · replace hF := (if_pos q16).symm.trans hF
          refine kw_aload_n X dX5_meanWearAt_26 rfl 0 rfl ?_
          refine kw_get X inX5 0 rfl rfl 0 (by decide) rfl gw_65 rfl dX5_meanWearAt_27 ?_
          refine kw_iload X dX5_meanWearAt_30 4 rfl ?_
          refine kw_vp X (r := .int (f_X2_at 60 sp v4_15)) (As := [.int v4_15]) (st := []) (c_X2_at l D cI cC cR h1 h2 60 (by decide) sp v4_15 (f_X2_at 60 sp v4_15) rfl) vl_X5_43 yv_X2_at ⟨Nat.le_of_ble_eq_true rfl, Nat.le_of_ble_eq_true rfl⟩ ⟨rfl, rfl⟩ ⟨Nat.zero_le _, Nat.zero_le _⟩ 1 rfl rfl [1, 2] rfl rfl rfl rfl (Nat.le_of_ble_eq_true rfl) dX5_meanWearAt_32 ?_
          refine kw_iload_n X dX5_meanWearAt_35 rfl 1 rfl ?_
          obtain ⟨v3_18, hx19, hF⟩ := pl1_ex hF
          have J : KW Γ 0 0 (wX5 cI h0 h1 h2 h3 h4 h5 h6 h7 h8 sp we le ta num) [(0, .ref h0), (1, .int p1), (2, .int (f_X5_numberAt ta p1)), (3, .int v3_18), (4, .int v4_15)] 51 [] := by
            refine kw_iinc (lo' := [(0, .ref h0), (1, .int p1), (2, .int (f_X5_numberAt ta p1)), (3, .int v3_18), (4, .int (v4_15 + 1))]) X dX5_meanWearAt_51 4 rfl (congrArg (fun w => v4_15 + w) ci_1) (by decide) [1, 2, 3, 4, 0] rfl ?_
            refine kw_goto X 17 dX5_meanWearAt_54 (by decide) ?_
            exact ih17 _ _ hF
          replace hF := hx19
          refine kw_icmp_ne X 51 dX5_meanWearAt_36 (by decide) (fun q17 => ?_) (fun q17 => ?_)
          · replace hF := (if_neg q17).symm.trans hF
            obtain rfl := ti1 hF
            exact J
          · replace hF := (if_pos q17).symm.trans hF
            refine kw_iload_n X dX5_meanWearAt_39 rfl 3 rfl ?_
            refine kw_aload_n X dX5_meanWearAt_40 rfl 0 rfl ?_
            refine kw_get X inX5 0 rfl rfl 1 (by decide) rfl gw_68 rfl dX5_meanWearAt_41 ?_
            refine kw_iload X dX5_meanWearAt_44 4 rfl ?_
            refine kw_vp X (r := .int (f_X2_at 60 we v4_15)) (As := [.int v4_15]) (st := [.int v3_14]) (c_X2_at l D cI cC cR h3 h4 60 (by decide) we v4_15 (f_X2_at 60 we v4_15) rfl) vl_X5_43 yv_X2_at ⟨Nat.le_of_ble_eq_true rfl, Nat.le_of_ble_eq_true rfl⟩ ⟨rfl, rfl⟩ ⟨Nat.zero_le _, Nat.zero_le _⟩ 3 rfl rfl [3, 4] rfl rfl rfl rfl (Nat.le_of_ble_eq_true rfl) dX5_meanWearAt_46 ?_
            refine kw_iadd X dX5_meanWearAt_49 ?_
            refine kw_istore_n (lo' := [(0, .ref h0), (1, .int p1), (2, .int (f_X5_numberAt ta p1)), (3, .int (v3_14 + (f_X2_at 60 we v4_15))), (4, .int v4_15)]) X dX5_meanWearAt_50 rfl (by decide) [1, 2, 3, 0, 4] rfl ?_
            obtain rfl := ti1 hF
            exact J
    exact hL17 Z _ _ hx
  · replace hF := (if_neg q1).symm.trans hF
    refine kw_iconst X dX5_meanWearAt_10 ci_0 ?_
    obtain rfl := si1 hF
    exact hret _ _ _ (vp_nar_int _) dX5_meanWearAt_11
