-- X4_rewind
def f_X4_rewind  : Int32 :=
  0
abbrev rm_X4_rewind : Room := { frames := 0, cells := 0, slots := 0, locals := 0 }
set_option maxHeartbeats 4000000 in
set_option maxRecDepth 100000 in
theorem c_X4_rewind (l : Launch) (D : va_G) (cI cC cR : ClassId) (h0 h1 : Nat) (ch : Nat → Int32) (len : Int32) (cur : Int32) (verb : Int32) (fi : Int32) (se : Int32) (cur' : Int32) (hF : f_X4_rewind = cur') : MEq l yX4_rewind cX4_rewind 1 none rm_X4_rewind D (TY cI cC cR) [.ref h0] (wX4 cC h0 h1 ch len cur verb fi se) (wX4 cC h0 h1 ch len cur' verb fi se) none := by
  refine me_v pn_X4 (Nat.le_of_ble_eq_true rfl) rfl (fun Γ X E hret => ?_)
  unfold f_X4_rewind at hF
  refine kw_aload_n X dX4_rewind_0 rfl 0 rfl ?_
  refine kw_iconst X dX4_rewind_1 ci_0 ?_
  refine kw_put X E inX4 tyX4 tyX4_ok nmX4 0 rfl rfl 2 (by decide) rfl gw_228 rfl pfd_I (vp_nar_int _) rfl (Nat.le_of_ble_eq_true rfl) (ws' := wX4 cC h0 h1 ch len 0 verb fi se) rfl dX4_rewind_2 ?_
  obtain rfl := ti1 hF
  exact hret _ _ dX4_rewind_5
-- X4_peek
def f_X4_peek (ch : Nat → Int32) (len : Int32) (cur : Int32) : Option (Int32) :=
  (pl1 (if cur < 0 then 0 else (if cur < len then (if cur < 80 then 1 else 0) else 0)) (fun (x4 : Int32) => (if x4 = 0 then (some 0) else ob1 (aget 80 ch cur) (fun a7 => (some a7)))))
abbrev rm_X4_peek : Room := { frames := 0, cells := 0, slots := 0, locals := 0 }
set_option maxHeartbeats 4000000 in
set_option maxRecDepth 100000 in
theorem c_X4_peek (l : Launch) (D : va_G) (cI cC cR : ClassId) (h0 h1 : Nat) (ch : Nat → Int32) (len : Int32) (cur : Int32) (verb : Int32) (fi : Int32) (se : Int32) (r : Int32) (hF : f_X4_peek ch len cur = some r) : MPi l yX4_peek cX4_peek 2 (some .int) rm_X4_peek D (TY cI cC cR) [.ref h0] (wX4 cC h0 h1 ch len cur verb fi se) (.int r) := by
  refine me_p pn_X4 (Nat.le_of_ble_eq_true rfl) rfl (fun Γ X hret => ?_)
  unfold f_X4_peek at hF
  refine kw_aload_n X dX4_peek_0 rfl 0 rfl ?_
  refine kw_get X inX4 0 rfl rfl 2 (by decide) rfl gw_228 rfl dX4_peek_1 ?_
  obtain ⟨x4, hx5, hF⟩ := pl1_ex hF
  have J : KW Γ 0 0 (wX4 cC h0 h1 ch len cur verb fi se) [(0, .ref h0)] 35 [.int x4] := by
    refine kw_istore_n (lo' := [(0, .ref h0), (1, .int x4)]) X dX4_peek_35 rfl (by decide) [1, 0] rfl ?_
    refine kw_iload_n X dX4_peek_36 rfl 1 rfl ?_
    refine kw_if_eq X 52 dX4_peek_37 (by decide) (fun q6 => ?_) (fun q6 => ?_)
    · replace hF := (if_pos q6).symm.trans hF
      refine kw_iconst X dX4_peek_52 ci_0 ?_
      obtain rfl := si1 hF
      exact hret _ _ _ (vp_nar_int _) dX4_peek_53
    · replace hF := (if_neg q6).symm.trans hF
      refine kw_aload_n X dX4_peek_40 rfl 0 rfl ?_
      refine kw_get X inX4 0 rfl rfl 0 (by decide) rfl gw_225 rfl dX4_peek_41 ?_
      refine kw_aload_n X dX4_peek_44 rfl 0 rfl ?_
      refine kw_get X inX4 0 rfl rfl 2 (by decide) rfl gw_228 rfl dX4_peek_45 ?_
      obtain ⟨a7, hx, hF⟩ := ob1_ex hF
      obtain ⟨hin, hx⟩ := aget_ex hx
      refine kw_cald X 1 1 rfl rfl hin hx dX4_peek_48 ?_
      refine kw_goto X 53 dX4_peek_49 (by decide) ?_
      obtain rfl := si1 hF
      exact hret _ _ _ (vp_nar_int _) dX4_peek_53
  replace hF := hx5
  refine kw_if_lt X 34 dX4_peek_4 (by decide) (fun q1 => ?_) (fun q1 => ?_)
  · replace hF := (if_pos q1).symm.trans hF
    refine kw_iconst X dX4_peek_34 ci_0 ?_
    obtain rfl := ti1 hF
    exact J
  · replace hF := (if_neg q1).symm.trans hF
    refine kw_aload_n X dX4_peek_7 rfl 0 rfl ?_
    refine kw_get X inX4 0 rfl rfl 2 (by decide) rfl gw_228 rfl dX4_peek_8 ?_
    refine kw_aload_n X dX4_peek_11 rfl 0 rfl ?_
    refine kw_get X inX4 0 rfl rfl 1 (by decide) rfl gw_226 rfl dX4_peek_12 ?_
    refine kw_icmp_ge X 34 dX4_peek_15 (by decide) (fun q8 => ?_) (fun q8 => ?_)
    · replace hF := (if_neg q8).symm.trans hF
      refine kw_iconst X dX4_peek_34 ci_0 ?_
      obtain rfl := ti1 hF
      exact J
    · replace hF := (if_pos q8).symm.trans hF
      refine kw_aload_n X dX4_peek_18 rfl 0 rfl ?_
      refine kw_get X inX4 0 rfl rfl 2 (by decide) rfl gw_228 rfl dX4_peek_19 ?_
      refine kw_aload_n X dX4_peek_22 rfl 0 rfl ?_
      refine kw_get X inX4 0 rfl rfl 0 (by decide) rfl gw_225 rfl dX4_peek_23 ?_
      refine kw_alen (v := 80) X 1 1 rfl rfl cn_80 dX4_peek_26 ?_
      refine kw_icmp_ge X 34 dX4_peek_27 (by decide) (fun q9 => ?_) (fun q9 => ?_)
      · replace hF := (if_neg q9).symm.trans hF
        refine kw_iconst X dX4_peek_34 ci_0 ?_
        obtain rfl := ti1 hF
        exact J
      · replace hF := (if_pos q9).symm.trans hF
        refine kw_iconst X dX4_peek_30 ci_1 ?_
        refine kw_goto X 35 dX4_peek_31 (by decide) ?_
        obtain rfl := ti1 hF
        exact J
-- X4_add
def f_X4_add (ch : Nat → Int32) (len : Int32) (p1 : Int32) : (Nat → Int32) × Int32 :=
  (if len < 0 then (ch, len) else (if len < 80 then ((upd ch len.toNatClampNeg (vp_nar .char (((p1).toUInt32 % 65536).toInt32))), (len + 1)) else (ch, len)))
abbrev rm_X4_add : Room := { frames := 0, cells := 0, slots := 0, locals := 0 }
set_option maxHeartbeats 4000000 in
set_option maxRecDepth 100000 in
theorem c_X4_add (l : Launch) (D : va_G) (cI cC cR : ClassId) (h0 h1 : Nat) (ch : Nat → Int32) (len : Int32) (cur : Int32) (verb : Int32) (fi : Int32) (se : Int32) (p1 : Int32) (ch' : Nat → Int32) (len' : Int32) (hF : f_X4_add ch len p1 = (ch', len')) : MEq l yX4_add cX4_add 2 none rm_X4_add D (TY cI cC cR) [.ref h0, .int p1] (wX4 cC h0 h1 ch len cur verb fi se) (wX4 cC h0 h1 ch' len' cur verb fi se) none := by
  refine me_v pn_X4 (Nat.le_of_ble_eq_true rfl) rfl (fun Γ X E hret => ?_)
  unfold f_X4_add at hF
  refine kw_aload_n X dX4_add_0 rfl 0 rfl ?_
  refine kw_get X inX4 0 rfl rfl 1 (by decide) rfl gw_226 rfl dX4_add_1 ?_
  refine kw_if_lt X 40 dX4_add_4 (by decide) (fun q1 => ?_) (fun q1 => ?_)
  · replace hF := (if_pos q1).symm.trans hF
    obtain ⟨rfl, rfl⟩ := ti2 hF
    exact hret _ _ dX4_add_40
  · replace hF := (if_neg q1).symm.trans hF
    refine kw_aload_n X dX4_add_7 rfl 0 rfl ?_
    refine kw_get X inX4 0 rfl rfl 1 (by decide) rfl gw_226 rfl dX4_add_8 ?_
    refine kw_aload_n X dX4_add_11 rfl 0 rfl ?_
    refine kw_get X inX4 0 rfl rfl 0 (by decide) rfl gw_225 rfl dX4_add_12 ?_
    refine kw_alen (v := 80) X 1 1 rfl rfl cn_80 dX4_add_15 ?_
    refine kw_icmp_ge X 40 dX4_add_16 (by decide) (fun q2 => ?_) (fun q2 => ?_)
    · replace hF := (if_neg q2).symm.trans hF
      obtain ⟨rfl, rfl⟩ := ti2 hF
      exact hret _ _ dX4_add_40
    · replace hF := (if_pos q2).symm.trans hF
      refine kw_aload_n X dX4_add_19 rfl 0 rfl ?_
      refine kw_get X inX4 0 rfl rfl 0 (by decide) rfl gw_225 rfl dX4_add_20 ?_
      refine kw_aload_n X dX4_add_23 rfl 0 rfl ?_
      refine kw_get X inX4 0 rfl rfl 1 (by decide) rfl gw_226 rfl dX4_add_24 ?_
      refine kw_iload_n X dX4_add_27 rfl 1 rfl ?_
      refine kw_i2c X dX4_add_28 rfl ?_
      refine kw_cast X E 1 1 rfl rfl (vp_ok q1 (by rw [show nI 80 = 80 from cn_80]; exact q2) (by decide)) (ws' := wX4 cC h0 h1 (upd ch len.toNatClampNeg (vp_nar .char (((p1).toUInt32 % 65536).toInt32))) len cur verb fi se) rfl dX4_add_29 ?_
      refine kw_aload_n X dX4_add_30 rfl 0 rfl ?_
      refine kw_dup X dX4_add_31 rfl ?_
      refine kw_get X inX4 0 rfl rfl 1 (by decide) rfl gw_226 rfl dX4_add_32 ?_
      refine kw_iconst X dX4_add_35 ci_1 ?_
      refine kw_iadd X dX4_add_36 ?_
      refine kw_put X E inX4 tyX4 tyX4_ok nmX4 0 rfl rfl 1 (by decide) rfl gw_226 rfl pfd_I (vp_nar_int _) rfl (Nat.le_of_ble_eq_true rfl) (ws' := wX4 cC h0 h1 (upd ch len.toNatClampNeg (vp_nar .char (((p1).toUInt32 % 65536).toInt32))) (len + 1) cur verb fi se) rfl dX4_add_37 ?_
      obtain ⟨rfl, rfl⟩ := ti2 hF
      exact hret _ _ dX4_add_40
-- X4_accept
def f_X4_accept (ch : Nat → Int32) (len : Int32) (cur : Int32) (p1 : Int32) : Option (Int32 × Int32) :=
  (ob1 (f_X4_peek ch len cur) (fun (b1 : Int32) => (if b1 = p1 then (some (1, (cur + 1))) else (some (0, cur)))))
abbrev rm_X4_accept : Room := { frames := 1, cells := 0, slots := 0, locals := 21 }
set_option maxHeartbeats 4000000 in
set_option maxRecDepth 100000 in
theorem c_X4_accept (l : Launch) (D : va_G) (cI cC cR : ClassId) (h0 h1 : Nat) (ch : Nat → Int32) (len : Int32) (cur : Int32) (verb : Int32) (fi : Int32) (se : Int32) (p1 : Int32) (r : Int32) (cur' : Int32) (hF : f_X4_accept ch len cur p1 = some (r, cur')) : MEq l yX4_accept cX4_accept 2 (some .boolean) rm_X4_accept D (TY cI cC cR) [.ref h0, .int p1] (wX4 cC h0 h1 ch len cur verb fi se) (wX4 cC h0 h1 ch len cur' verb fi se) (some (.int r)) := by
  refine me_e pn_X4 (Nat.le_of_ble_eq_true rfl) rfl (fun Γ X E hret => ?_)
  unfold f_X4_accept at hF
  refine kw_aload_n X dX4_accept_0 rfl 0 rfl ?_
  obtain ⟨b1, hx1, hF⟩ := ob1_ex hF
  refine kw_ap X (r := .int b1) (As := []) (st := []) (c_X4_peek l D cI cC cR h0 h1 ch len cur verb fi se b1 hx1) vl_X4_33 yv_X4_peek ⟨Nat.le_of_ble_eq_true rfl, Nat.le_of_ble_eq_true rfl⟩ ⟨rfl, rfl⟩ ⟨Nat.zero_le _, Nat.zero_le _⟩ 0 rfl rfl rfl rfl (Nat.le_of_ble_eq_true rfl) dX4_accept_1 ?_
  refine kw_iload_n X dX4_accept_4 rfl 1 rfl ?_
  refine kw_icmp_eq X 10 dX4_accept_5 (by decide) (fun q2 => ?_) (fun q2 => ?_)
  · replace hF := (if_pos q2).symm.trans hF
    refine kw_aload_n X dX4_accept_10 rfl 0 rfl ?_
    refine kw_dup X dX4_accept_11 rfl ?_
    refine kw_get X inX4 0 rfl rfl 2 (by decide) rfl gw_228 rfl dX4_accept_12 ?_
    refine kw_iconst X dX4_accept_15 ci_1 ?_
    refine kw_iadd X dX4_accept_16 ?_
    refine kw_put X E inX4 tyX4 tyX4_ok nmX4 0 rfl rfl 2 (by decide) rfl gw_228 rfl pfd_I (vp_nar_int _) rfl (Nat.le_of_ble_eq_true rfl) (ws' := wX4 cC h0 h1 ch len (cur + 1) verb fi se) rfl dX4_accept_17 ?_
    refine kw_iconst X dX4_accept_20 ci_1 ?_
    obtain ⟨rfl, rfl⟩ := si2 hF
    exact hret _ _ rfl dX4_accept_21
  · replace hF := (if_neg q2).symm.trans hF
    refine kw_iconst X dX4_accept_8 ci_0 ?_
    obtain ⟨rfl, rfl⟩ := si2 hF
    exact hret _ _ rfl dX4_accept_9
-- X4_readDigit
def f_X4_readDigit (ch : Nat → Int32) (len : Int32) (cur : Int32) : Option (Int32 × Int32) :=
  (ob1 (f_X4_peek ch len cur) (fun (b1 : Int32) => (if (f_X6_outside b1 48 57) = 0 then (some ((b1 - 48), (cur + 1))) else (some ((-9), cur)))))
abbrev rm_X4_readDigit : Room := { frames := 1, cells := 0, slots := 0, locals := 22 }
set_option maxHeartbeats 4000000 in
set_option maxRecDepth 100000 in
theorem c_X4_readDigit (l : Launch) (D : va_G) (cI cC cR : ClassId) (h0 h1 : Nat) (ch : Nat → Int32) (len : Int32) (cur : Int32) (verb : Int32) (fi : Int32) (se : Int32) (r : Int32) (cur' : Int32) (hF : f_X4_readDigit ch len cur = some (r, cur')) : MEq l yX4_readDigit cX4_readDigit 2 (some .int) rm_X4_readDigit D (TY cI cC cR) [.ref h0] (wX4 cC h0 h1 ch len cur verb fi se) (wX4 cC h0 h1 ch len cur' verb fi se) (some (.int r)) := by
  refine me_e pn_X4 (Nat.le_of_ble_eq_true rfl) rfl (fun Γ X E hret => ?_)
  unfold f_X4_readDigit at hF
  refine kw_aload_n X dX4_readDigit_0 rfl 0 rfl ?_
  obtain ⟨b1, hx1, hF⟩ := ob1_ex hF
  refine kw_ap X (r := .int b1) (As := []) (st := []) (c_X4_peek l D cI cC cR h0 h1 ch len cur verb fi se b1 hx1) vl_X4_33 yv_X4_peek ⟨Nat.le_of_ble_eq_true rfl, Nat.le_of_ble_eq_true rfl⟩ ⟨rfl, rfl⟩ ⟨Nat.zero_le _, Nat.zero_le _⟩ 0 rfl rfl rfl rfl (Nat.le_of_ble_eq_true rfl) dX4_readDigit_1 ?_
  refine kw_istore_n (lo' := [(0, .ref h0), (1, .int b1)]) X dX4_readDigit_4 rfl (by decide) [1, 0] rfl ?_
  refine kw_iload_n X dX4_readDigit_5 rfl 1 rfl ?_
  refine kw_bipush X dX4_readDigit_6 cb_48 ?_
  refine kw_bipush X dX4_readDigit_8 cb_57 ?_
  refine kw_snp X (r := .int (f_X6_outside b1 48 57)) (As := [.int b1, .int 48, .int 57]) (st := []) (c_X6_outside l D cI cC cR  b1 48 57 (f_X6_outside b1 48 57) rfl) nw_34 vn_X4_55 yv_X6_outside ⟨Nat.le_of_ble_eq_true rfl, Nat.le_of_ble_eq_true rfl⟩ ⟨rfl, rfl⟩ ⟨Nat.zero_le _, Nat.zero_le _⟩ [] rfl rfl rfl rfl (Nat.le_of_ble_eq_true rfl) dX4_readDigit_10 ?_
  refine kw_if_eq X 19 dX4_readDigit_13 (by decide) (fun q2 => ?_) (fun q2 => ?_)
  · replace hF := (if_pos q2).symm.trans hF
    refine kw_aload_n X dX4_readDigit_19 rfl 0 rfl ?_
    refine kw_dup X dX4_readDigit_20 rfl ?_
    refine kw_get X inX4 0 rfl rfl 2 (by decide) rfl gw_228 rfl dX4_readDigit_21 ?_
    refine kw_iconst X dX4_readDigit_24 ci_1 ?_
    refine kw_iadd X dX4_readDigit_25 ?_
    refine kw_put X E inX4 tyX4 tyX4_ok nmX4 0 rfl rfl 2 (by decide) rfl gw_228 rfl pfd_I (vp_nar_int _) rfl (Nat.le_of_ble_eq_true rfl) (ws' := wX4 cC h0 h1 ch len (cur + 1) verb fi se) rfl dX4_readDigit_26 ?_
    refine kw_iload_n X dX4_readDigit_29 rfl 1 rfl ?_
    refine kw_bipush X dX4_readDigit_30 cb_48 ?_
    refine kw_isub X dX4_readDigit_32 ?_
    obtain ⟨rfl, rfl⟩ := si2 hF
    exact hret _ _ (vp_nar_int _) dX4_readDigit_33
  · replace hF := (if_neg q2).symm.trans hF
    refine kw_bipush X dX4_readDigit_16 cb_m9 ?_
    obtain ⟨rfl, rfl⟩ := si2 hF
    exact hret _ _ (vp_nar_int _) dX4_readDigit_18
-- X4_readNumber
def f_X4_readNumber (ch : Nat → Int32) (len : Int32) (cur : Int32) : Option (Int32 × Int32) :=
  (ob2 (f_X4_readDigit ch len cur) (fun (b1 : Int32) (b2 : Int32) => (if 0 < b1 then (ob2 (f_X4_readDigit ch len b2) (fun (b4 : Int32) (b5 : Int32) => (if b4 = (-9) then (some (b1, b5)) else (some (((10 * b1) + b4), b5))))) else (some (b1, b2)))))
abbrev rm_X4_readNumber : Room := { frames := 2, cells := 0, slots := 0, locals := 43 }
set_option maxHeartbeats 4000000 in
set_option maxRecDepth 100000 in
theorem c_X4_readNumber (l : Launch) (D : va_G) (cI cC cR : ClassId) (h0 h1 : Nat) (ch : Nat → Int32) (len : Int32) (cur : Int32) (verb : Int32) (fi : Int32) (se : Int32) (r : Int32) (cur' : Int32) (hF : f_X4_readNumber ch len cur = some (r, cur')) : MEq l yX4_readNumber cX4_readNumber 3 (some .int) rm_X4_readNumber D (TY cI cC cR) [.ref h0] (wX4 cC h0 h1 ch len cur verb fi se) (wX4 cC h0 h1 ch len cur' verb fi se) (some (.int r)) := by
  refine me_e pn_X4 (Nat.le_of_ble_eq_true rfl) rfl (fun Γ X E hret => ?_)
  unfold f_X4_readNumber at hF
  refine kw_aload_n X dX4_readNumber_0 rfl 0 rfl ?_
  obtain ⟨b1, b2, hx2, hF⟩ := ob2_ex hF
  refine kw_aei X (r := .int b1) (As := []) (st := []) E (c_X4_readDigit l D cI cC cR h0 h1 ch len cur verb fi se b1 b2 hx2) vl_X4_52 yv_X4_readDigit ⟨Nat.le_of_ble_eq_true rfl, Nat.le_of_ble_eq_true rfl⟩ ⟨rfl, rfl⟩ ⟨Nat.zero_le _, Nat.zero_le _⟩ 0 rfl rfl rfl rfl (Nat.le_of_ble_eq_true rfl) dX4_readNumber_1 ?_
  refine kw_istore_n (lo' := [(0, .ref h0), (1, .int b1)]) X dX4_readNumber_4 rfl (by decide) [1, 0] rfl ?_
  refine kw_iload_n X dX4_readNumber_5 rfl 1 rfl ?_
  refine kw_if_gt X 11 dX4_readNumber_6 (by decide) (fun q3 => ?_) (fun q3 => ?_)
  · replace hF := (if_pos q3).symm.trans hF
    refine kw_aload_n X dX4_readNumber_11 rfl 0 rfl ?_
    obtain ⟨b4, b5, hx5, hF⟩ := ob2_ex hF
    refine kw_aei X (r := .int b4) (As := []) (st := []) E (c_X4_readDigit l D cI cC cR h0 h1 ch len b2 verb fi se b4 b5 hx5) vl_X4_52 yv_X4_readDigit ⟨Nat.le_of_ble_eq_true rfl, Nat.le_of_ble_eq_true rfl⟩ ⟨rfl, rfl⟩ ⟨Nat.zero_le _, Nat.zero_le _⟩ 0 rfl rfl rfl rfl (Nat.le_of_ble_eq_true rfl) dX4_readNumber_12 ?_
    refine kw_istore_n (lo' := [(0, .ref h0), (1, .int b1), (2, .int b4)]) X dX4_readNumber_15 rfl (by decide) [1, 2, 0] rfl ?_
    refine kw_iload_n X dX4_readNumber_16 rfl 2 rfl ?_
    refine kw_bipush X dX4_readNumber_17 cb_m9 ?_
    refine kw_icmp_ne X 26 dX4_readNumber_19 (by decide) (fun q6 => ?_) (fun q6 => ?_)
    · replace hF := (if_neg q6).symm.trans hF
      refine kw_bipush X dX4_readNumber_26 cb_10 ?_
      refine kw_iload_n X dX4_readNumber_28 rfl 1 rfl ?_
      refine kw_imul X dX4_readNumber_29 ?_
      refine kw_iload_n X dX4_readNumber_30 rfl 2 rfl ?_
      refine kw_iadd X dX4_readNumber_31 ?_
      obtain ⟨rfl, rfl⟩ := si2 hF
      exact hret _ _ (vp_nar_int _) dX4_readNumber_32
    · replace hF := (if_pos q6).symm.trans hF
      refine kw_iload_n X dX4_readNumber_22 rfl 1 rfl ?_
      refine kw_goto X 32 dX4_readNumber_23 (by decide) ?_
      obtain ⟨rfl, rfl⟩ := si2 hF
      exact hret _ _ (vp_nar_int _) dX4_readNumber_32
  · replace hF := (if_neg q3).symm.trans hF
    refine kw_iload_n X dX4_readNumber_9 rfl 1 rfl ?_
    obtain ⟨rfl, rfl⟩ := si2 hF
    exact hret _ _ (vp_nar_int _) dX4_readNumber_10
-- X4_readNumbers
def f_X4_readNumbers (ch : Nat → Int32) (len : Int32) (cur : Int32) (se : Int32) (p1 : Int32) : Option (Int32 × Int32 × Int32 × Int32) :=
  (ob2 (f_X4_readNumber ch len cur) (fun (b1 : Int32) (b2 : Int32) => (if b1 = (-9) then (some (0, b2, b1, se)) else (ob2 (f_X4_accept ch len b2 p1) (fun (b4 : Int32) (b5 : Int32) => (if b4 = 0 then (some (0, b5, b1, se)) else (ob2 (f_X4_readNumber ch len b5) (fun (b7 : Int32) (b8 : Int32) => (if b7 = (-9) then (some (0, b8, b1, b7)) else (some (1, b8, b1, b7)))))))))))
abbrev rm_X4_readNumbers : Room := { frames := 3, cells := 0, slots := 0, locals := 65 }
set_option maxHeartbeats 4000000 in
set_option maxRecDepth 100000 in
theorem c_X4_readNumbers (l : Launch) (D : va_G) (cI cC cR : ClassId) (h0 h1 : Nat) (ch : Nat → Int32) (len : Int32) (cur : Int32) (verb : Int32) (fi : Int32) (se : Int32) (p1 : Int32) (r : Int32) (cur' : Int32) (fi' : Int32) (se' : Int32) (hF : f_X4_readNumbers ch len cur se p1 = some (r, cur', fi', se')) : MEq l yX4_readNumbers cX4_readNumbers 2 (some .boolean) rm_X4_readNumbers D (TY cI cC cR) [.ref h0, .int p1] (wX4 cC h0 h1 ch len cur verb fi se) (wX4 cC h0 h1 ch len cur' verb fi' se') (some (.int r)) := by
  refine me_e pn_X4 (Nat.le_of_ble_eq_true rfl) rfl (fun Γ X E hret => ?_)
  unfold f_X4_readNumbers at hF
  refine kw_aload_n X dX4_readNumbers_0 rfl 0 rfl ?_
  refine kw_aload_n X dX4_readNumbers_1 rfl 0 rfl ?_
  obtain ⟨b1, b2, hx2, hF⟩ := ob2_ex hF
  refine kw_aei X (r := .int b1) (As := []) (st := [.ref h0]) E (c_X4_readNumber l D cI cC cR h0 h1 ch len cur verb fi se b1 b2 hx2) vl_X4_43 yv_X4_readNumber ⟨Nat.le_of_ble_eq_true rfl, Nat.le_of_ble_eq_true rfl⟩ ⟨rfl, rfl⟩ ⟨Nat.zero_le _, Nat.zero_le _⟩ 0 rfl rfl rfl rfl (Nat.le_of_ble_eq_true rfl) dX4_readNumbers_2 ?_
  refine kw_put X E inX4 tyX4 tyX4_ok nmX4 0 rfl rfl 4 (by decide) rfl gw_231 rfl pfd_I (vp_nar_int _) rfl (Nat.le_of_ble_eq_true rfl) (ws' := wX4 cC h0 h1 ch len b2 verb b1 se) rfl dX4_readNumbers_5 ?_
  refine kw_aload_n X dX4_readNumbers_8 rfl 0 rfl ?_
  refine kw_get X inX4 0 rfl rfl 4 (by decide) rfl gw_231 rfl dX4_readNumbers_9 ?_
  refine kw_bipush X dX4_readNumbers_12 cb_m9 ?_
  refine kw_icmp_eq X 25 dX4_readNumbers_14 (by decide) (fun q3 => ?_) (fun q3 => ?_)
  · replace hF := (if_pos q3).symm.trans hF
    refine kw_iconst X dX4_readNumbers_25 ci_0 ?_
    obtain ⟨rfl, rfl, rfl, rfl⟩ := si4 hF
    exact hret _ _ rfl dX4_readNumbers_26
  · replace hF := (if_neg q3).symm.trans hF
    refine kw_aload_n X dX4_readNumbers_17 rfl 0 rfl ?_
    refine kw_iload_n X dX4_readNumbers_18 rfl 1 rfl ?_
    obtain ⟨b4, b5, hx5, hF⟩ := ob2_ex hF
    refine kw_aei X (r := .int b4) (As := [.int p1]) (st := []) E (c_X4_accept l D cI cC cR h0 h1 ch len b2 verb b1 se p1 b4 b5 hx5) vl_X4_29 yv_X4_accept ⟨Nat.le_of_ble_eq_true rfl, Nat.le_of_ble_eq_true rfl⟩ ⟨rfl, rfl⟩ ⟨Nat.zero_le _, Nat.zero_le _⟩ 0 rfl rfl rfl rfl (Nat.le_of_ble_eq_true rfl) dX4_readNumbers_19 ?_
    refine kw_if_ne X 27 dX4_readNumbers_22 (by decide) (fun q6 => ?_) (fun q6 => ?_)
    · replace hF := (if_neg q6).symm.trans hF
      refine kw_aload_n X dX4_readNumbers_27 rfl 0 rfl ?_
      refine kw_aload_n X dX4_readNumbers_28 rfl 0 rfl ?_
      obtain ⟨b7, b8, hx8, hF⟩ := ob2_ex hF
      refine kw_aei X (r := .int b7) (As := []) (st := [.ref h0]) E (c_X4_readNumber l D cI cC cR h0 h1 ch len b5 verb b1 se b7 b8 hx8) vl_X4_43 yv_X4_readNumber ⟨Nat.le_of_ble_eq_true rfl, Nat.le_of_ble_eq_true rfl⟩ ⟨rfl, rfl⟩ ⟨Nat.zero_le _, Nat.zero_le _⟩ 0 rfl rfl rfl rfl (Nat.le_of_ble_eq_true rfl) dX4_readNumbers_29 ?_
      refine kw_put X E inX4 tyX4 tyX4_ok nmX4 0 rfl rfl 5 (by decide) rfl gw_233 rfl pfd_I (vp_nar_int _) rfl (Nat.le_of_ble_eq_true rfl) (ws' := wX4 cC h0 h1 ch len b8 verb b1 b7) rfl dX4_readNumbers_32 ?_
      refine kw_aload_n X dX4_readNumbers_35 rfl 0 rfl ?_
      refine kw_get X inX4 0 rfl rfl 5 (by decide) rfl gw_233 rfl dX4_readNumbers_36 ?_
      refine kw_bipush X dX4_readNumbers_39 cb_m9 ?_
      refine kw_icmp_eq X 48 dX4_readNumbers_41 (by decide) (fun q9 => ?_) (fun q9 => ?_)
      · replace hF := (if_pos q9).symm.trans hF
        refine kw_iconst X dX4_readNumbers_48 ci_0 ?_
        obtain ⟨rfl, rfl, rfl, rfl⟩ := si4 hF
        exact hret _ _ rfl dX4_readNumbers_49
      · replace hF := (if_neg q9).symm.trans hF
        refine kw_iconst X dX4_readNumbers_44 ci_1 ?_
        refine kw_goto X 49 dX4_readNumbers_45 (by decide) ?_
        obtain ⟨rfl, rfl, rfl, rfl⟩ := si4 hF
        exact hret _ _ rfl dX4_readNumbers_49
    · replace hF := (if_pos q6).symm.trans hF
      refine kw_iconst X dX4_readNumbers_25 ci_0 ?_
      obtain ⟨rfl, rfl, rfl, rfl⟩ := si4 hF
      exact hret _ _ rfl dX4_readNumbers_26
theorem nz_X4_readNumbers {ch : Nat → Int32} {len : Int32} {cur : Int32} {se : Int32} {p1 : Int32} {r : Int32} {cur' : Int32} {fi' : Int32} {se' : Int32} (h : f_X4_readNumbers ch len cur se p1 = some (r, cur', fi', se')) : narrow .boolean (.int r) = .int r := by
  unfold f_X4_readNumbers at h
  obtain ⟨b1, b2, _, h⟩ := ob2_ex h
  split at h
  · cases h; rfl
  · obtain ⟨b4, b5, _, h⟩ := ob2_ex h
    split at h
    · cases h; rfl
    · obtain ⟨b7, b8, _, h⟩ := ob2_ex h
      split at h <;> (cases h; rfl)
-- X4_readOrder
def f_X4_readOrder (ch : Nat → Int32) (len : Int32) (cur : Int32) (fi : Int32) (se : Int32) : Option (Int32 × Int32 × Int32 × Int32 × Int32) :=
  (ob1 (f_X4_peek ch len cur) (fun (b1 : Int32) => (if b1 = 98 then (ob4 (f_X4_readNumbers ch len (cur + 1) se 64) (fun (b3 : Int32) (b4 : Int32) (b5 : Int32) (b6 : Int32) => (some (b3, b4, b1, b5, b6)))) else (if b1 = 104 then (ob4 (f_X4_readNumbers ch len (cur + 1) se 44) (fun (b8 : Int32) (b9 : Int32) (b10 : Int32) (b11 : Int32) => (some (b8, b9, b1, b10, b11)))) else (if b1 = 108 then (some (1, (cur + 1), b1, fi, se)) else (if b1 = 114 then (ob4 (f_X4_readNumbers ch len (cur + 1) se 64) (fun (b14 : Int32) (b15 : Int32) (b16 : Int32) (b17 : Int32) => (some (b14, b15, b1, b16, b17)))) else (some (0, cur, b1, fi, se))))))))
abbrev rm_X4_readOrder : Room := { frames := 4, cells := 0, slots := 0, locals := 86 }
set_option maxHeartbeats 4000000 in
set_option maxRecDepth 100000 in
theorem c_X4_readOrder (l : Launch) (D : va_G) (cI cC cR : ClassId) (h0 h1 : Nat) (ch : Nat → Int32) (len : Int32) (cur : Int32) (verb : Int32) (fi : Int32) (se : Int32) (r : Int32) (cur' : Int32) (verb' : Int32) (fi' : Int32) (se' : Int32) (hF : f_X4_readOrder ch len cur fi se = some (r, cur', verb', fi', se')) : MEq l yX4_readOrder cX4_readOrder 1 (some .boolean) rm_X4_readOrder D (TY cI cC cR) [.ref h0] (wX4 cC h0 h1 ch len cur verb fi se) (wX4 cC h0 h1 ch len cur' verb' fi' se') (some (.int r)) := by
  refine me_e pn_X4 (Nat.le_of_ble_eq_true rfl) rfl (fun Γ X E hret => ?_)
  unfold f_X4_readOrder at hF
  refine kw_aload_n X dX4_readOrder_0 rfl 0 rfl ?_
  refine kw_aload_n X dX4_readOrder_1 rfl 0 rfl ?_
  obtain ⟨b1, hx1, hF⟩ := ob1_ex hF
  refine kw_ap X (r := .int b1) (As := []) (st := [.ref h0]) (c_X4_peek l D cI cC cR h0 h1 ch len cur verb fi se b1 hx1) vl_X4_33 yv_X4_peek ⟨Nat.le_of_ble_eq_true rfl, Nat.le_of_ble_eq_true rfl⟩ ⟨rfl, rfl⟩ ⟨Nat.zero_le _, Nat.zero_le _⟩ 0 rfl rfl rfl rfl (Nat.le_of_ble_eq_true rfl) dX4_readOrder_2 ?_
  refine kw_put X E inX4 tyX4 tyX4_ok nmX4 0 rfl rfl 3 (by decide) rfl gw_229 rfl pfd_I (vp_nar_int _) rfl (Nat.le_of_ble_eq_true rfl) (ws' := wX4 cC h0 h1 ch len cur b1 fi se) rfl dX4_readOrder_5 ?_
  refine kw_aload_n X dX4_readOrder_8 rfl 0 rfl ?_
  refine kw_get X inX4 0 rfl rfl 3 (by decide) rfl gw_229 rfl dX4_readOrder_9 ?_
  by_cases q2 : b1 = 98
  · replace hF := (if_pos q2).symm.trans hF
    refine kw_lookup X 56 dX4_readOrder_12 (by decide) (by rw [q2]; try rfl) (by decide) ?_
    refine kw_aload_n X dX4_readOrder_56 rfl 0 rfl ?_
    refine kw_dup X dX4_readOrder_57 rfl ?_
    refine kw_get X inX4 0 rfl rfl 2 (by decide) rfl gw_228 rfl dX4_readOrder_58 ?_
    refine kw_iconst X dX4_readOrder_61 ci_1 ?_
    refine kw_iadd X dX4_readOrder_62 ?_
    refine kw_put X E inX4 tyX4 tyX4_ok nmX4 0 rfl rfl 2 (by decide) rfl gw_228 rfl pfd_I (vp_nar_int _) rfl (Nat.le_of_ble_eq_true rfl) (ws' := wX4 cC h0 h1 ch len (cur + 1) b1 fi se) rfl dX4_readOrder_63 ?_
    refine kw_aload_n X dX4_readOrder_66 rfl 0 rfl ?_
    refine kw_bipush X dX4_readOrder_67 cb_64 ?_
    obtain ⟨b3, b4, b5, b6, hx6, hF⟩ := ob4_ex hF
    refine kw_aei X (r := .int b3) (As := [.int 64]) (st := []) E (c_X4_readNumbers l D cI cC cR h0 h1 ch len (cur + 1) b1 fi se 64 b3 b4 b5 b6 hx6) vl_X4_40 yv_X4_readNumbers ⟨Nat.le_of_ble_eq_true rfl, Nat.le_of_ble_eq_true rfl⟩ ⟨rfl, rfl⟩ ⟨Nat.zero_le _, Nat.zero_le _⟩ 0 rfl rfl rfl rfl (Nat.le_of_ble_eq_true rfl) dX4_readOrder_69 ?_
    obtain ⟨rfl, rfl, rfl, rfl, rfl⟩ := si5 hF
    exact hret _ _ (nz_X4_readNumbers hx6) dX4_readOrder_72
  · replace hF := (if_neg q2).symm.trans hF
    by_cases q7 : b1 = 104
    · replace hF := (if_pos q7).symm.trans hF
      refine kw_lookup X 73 dX4_readOrder_12 (by decide) (by rw [q7]; try rfl) (by decide) ?_
      refine kw_aload_n X dX4_readOrder_73 rfl 0 rfl ?_
      refine kw_dup X dX4_readOrder_74 rfl ?_
      refine kw_get X inX4 0 rfl rfl 2 (by decide) rfl gw_228 rfl dX4_readOrder_75 ?_
      refine kw_iconst X dX4_readOrder_78 ci_1 ?_
      refine kw_iadd X dX4_readOrder_79 ?_
      refine kw_put X E inX4 tyX4 tyX4_ok nmX4 0 rfl rfl 2 (by decide) rfl gw_228 rfl pfd_I (vp_nar_int _) rfl (Nat.le_of_ble_eq_true rfl) (ws' := wX4 cC h0 h1 ch len (cur + 1) b1 fi se) rfl dX4_readOrder_80 ?_
      refine kw_aload_n X dX4_readOrder_83 rfl 0 rfl ?_
      refine kw_bipush X dX4_readOrder_84 cb_44 ?_
      obtain ⟨b8, b9, b10, b11, hx11, hF⟩ := ob4_ex hF
      refine kw_aei X (r := .int b8) (As := [.int 44]) (st := []) E (c_X4_readNumbers l D cI cC cR h0 h1 ch len (cur + 1) b1 fi se 44 b8 b9 b10 b11 hx11) vl_X4_40 yv_X4_readNumbers ⟨Nat.le_of_ble_eq_true rfl, Nat.le_of_ble_eq_true rfl⟩ ⟨rfl, rfl⟩ ⟨Nat.zero_le _, Nat.zero_le _⟩ 0 rfl rfl rfl rfl (Nat.le_of_ble_eq_true rfl) dX4_readOrder_86 ?_
      obtain ⟨rfl, rfl, rfl, rfl, rfl⟩ := si5 hF
      exact hret _ _ (nz_X4_readNumbers hx11) dX4_readOrder_89
    · replace hF := (if_neg q7).symm.trans hF
      by_cases q12 : b1 = 108
      · replace hF := (if_pos q12).symm.trans hF
        refine kw_lookup X 90 dX4_readOrder_12 (by decide) (by rw [q12]; try rfl) (by decide) ?_
        refine kw_aload_n X dX4_readOrder_90 rfl 0 rfl ?_
        refine kw_dup X dX4_readOrder_91 rfl ?_
        refine kw_get X inX4 0 rfl rfl 2 (by decide) rfl gw_228 rfl dX4_readOrder_92 ?_
        refine kw_iconst X dX4_readOrder_95 ci_1 ?_
        refine kw_iadd X dX4_readOrder_96 ?_
        refine kw_put X E inX4 tyX4 tyX4_ok nmX4 0 rfl rfl 2 (by decide) rfl gw_228 rfl pfd_I (vp_nar_int _) rfl (Nat.le_of_ble_eq_true rfl) (ws' := wX4 cC h0 h1 ch len (cur + 1) b1 fi se) rfl dX4_readOrder_97 ?_
        refine kw_iconst X dX4_readOrder_100 ci_1 ?_
        obtain ⟨rfl, rfl, rfl, rfl, rfl⟩ := si5 hF
        exact hret _ _ rfl dX4_readOrder_101
      · replace hF := (if_neg q12).symm.trans hF
        by_cases q13 : b1 = 114
        · replace hF := (if_pos q13).symm.trans hF
          refine kw_lookup X 56 dX4_readOrder_12 (by decide) (by rw [q13]; try rfl) (by decide) ?_
          refine kw_aload_n X dX4_readOrder_56 rfl 0 rfl ?_
          refine kw_dup X dX4_readOrder_57 rfl ?_
          refine kw_get X inX4 0 rfl rfl 2 (by decide) rfl gw_228 rfl dX4_readOrder_58 ?_
          refine kw_iconst X dX4_readOrder_61 ci_1 ?_
          refine kw_iadd X dX4_readOrder_62 ?_
          refine kw_put X E inX4 tyX4 tyX4_ok nmX4 0 rfl rfl 2 (by decide) rfl gw_228 rfl pfd_I (vp_nar_int _) rfl (Nat.le_of_ble_eq_true rfl) (ws' := wX4 cC h0 h1 ch len (cur + 1) b1 fi se) rfl dX4_readOrder_63 ?_
          refine kw_aload_n X dX4_readOrder_66 rfl 0 rfl ?_
          refine kw_bipush X dX4_readOrder_67 cb_64 ?_
          obtain ⟨b14, b15, b16, b17, hx17, hF⟩ := ob4_ex hF
          refine kw_aei X (r := .int b14) (As := [.int 64]) (st := []) E (c_X4_readNumbers l D cI cC cR h0 h1 ch len (cur + 1) b1 fi se 64 b14 b15 b16 b17 hx17) vl_X4_40 yv_X4_readNumbers ⟨Nat.le_of_ble_eq_true rfl, Nat.le_of_ble_eq_true rfl⟩ ⟨rfl, rfl⟩ ⟨Nat.zero_le _, Nat.zero_le _⟩ 0 rfl rfl rfl rfl (Nat.le_of_ble_eq_true rfl) dX4_readOrder_69 ?_
          obtain ⟨rfl, rfl, rfl, rfl, rfl⟩ := si5 hF
          exact hret _ _ (nz_X4_readNumbers hx17) dX4_readOrder_72
        · replace hF := (if_neg q13).symm.trans hF
          refine kw_lookup (off := 90) X 102 dX4_readOrder_12 (by decide) ((lv_osw q2 (by decide)).trans ((lv_osw q7 (by decide)).trans ((lv_osw q12 (by decide)).trans ((lv_osw q13 (by decide)).trans (rfl))))) (by decide) ?_
          refine kw_iconst X dX4_readOrder_102 ci_0 ?_
          obtain ⟨rfl, rfl, rfl, rfl, rfl⟩ := si5 hF
          exact hret _ _ rfl dX4_readOrder_103
-- X4_fault
def f_X4_fault_L6 (ch : Nat → Int32) (len : Int32) : Nat → Int32 → Int32 → Int32 → Int32 → Int32 → Option (Int32 × Int32 × Int32 × Int32 × Int32)
  | 0, _, _, _, _, _ => none
  | F + 1, v1_28, w29, w30, w31, w32 => (if 80 < v1_28 then (some (w29, w29, w30, w31, w32)) else (ob5 (f_X4_readOrder ch len w29 w31 w32) (fun (b34 : Int32) (b35 : Int32) (b36 : Int32) (b37 : Int32) (b38 : Int32) => (if b34 = 0 then (some (b35, b35, b36, b37, b38)) else (if b35 < len then (ob2 (f_X4_accept ch len b35 59) (fun (b41 : Int32) (b42 : Int32) => (if b41 = 0 then (some (b42, b42, b36, b37, b38)) else (f_X4_fault_L6 ch len F (v1_28 + 1) b42 b36 b37 b38)))) else (some ((-9), b35, b36, b37, b38)))))))
def f_X4_fault (Z : Nat) (ch : Nat → Int32) (len : Int32) (verb : Int32) (fi : Int32) (se : Int32) : Option (Int32 × Int32 × Int32 × Int32 × Int32) :=
  (f_X4_fault_L6 ch len Z 0 (f_X4_rewind) verb fi se)
abbrev rm_X4_fault : Room := { frames := 5, cells := 0, slots := 0, locals := 106 }
set_option maxHeartbeats 4000000 in
set_option maxRecDepth 100000 in
theorem c_X4_fault (l : Launch) (D : va_G) (cI cC cR : ClassId) (h0 h1 : Nat) (ch : Nat → Int32) (len : Int32) (cur : Int32) (verb : Int32) (fi : Int32) (se : Int32) (Z : Nat) (r : Int32) (cur' : Int32) (verb' : Int32) (fi' : Int32) (se' : Int32) (hF : f_X4_fault Z ch len verb fi se = some (r, cur', verb', fi', se')) : MEq l yX4_fault cX4_fault 2 (some .int) rm_X4_fault D (TY cI cC cR) [.ref h0] (wX4 cC h0 h1 ch len cur verb fi se) (wX4 cC h0 h1 ch len cur' verb' fi' se') (some (.int r)) := by
  refine me_e pn_X4 (Nat.le_of_ble_eq_true rfl) rfl (fun Γ X E hret => ?_)
  unfold f_X4_fault at hF
  refine kw_aload_n X dX4_fault_0 rfl 0 rfl ?_
  refine kw_aev X (As := []) (st := []) E (c_X4_rewind l D cI cC cR h0 h1 ch len cur verb fi se (f_X4_rewind) rfl) vl_X4_19 yv_X4_rewind ⟨Nat.le_of_ble_eq_true rfl, Nat.le_of_ble_eq_true rfl⟩ ⟨rfl, rfl⟩ ⟨Nat.zero_le _, Nat.zero_le _⟩ 0 rfl rfl rfl rfl (Nat.le_of_ble_eq_true rfl) dX4_fault_1 ?_
  refine kw_iconst X dX4_fault_4 ci_0 ?_
  refine kw_istore_n (lo' := [(0, .ref h0), (1, .int 0)]) X dX4_fault_5 rfl (by decide) [1, 0] rfl ?_
  have hL6 : ∀ (F : Nat) (v1_28 : Int32) (w29 : Int32) (w30 : Int32) (w31 : Int32) (w32 : Int32), f_X4_fault_L6 ch len F v1_28 w29 w30 w31 w32 = some (r, cur', verb', fi', se') → KW Γ 0 0 (wX4 cC h0 h1 ch len w29 w30 w31 w32) [(0, .ref h0), (1, .int v1_28)] 6 [] := by
    intro F
    induction F with
    | zero => intro v1_28 w29 w30 w31 w32 hF; exact none_some hF
    | succ F ih6 =>
      intro v1_28 w29 w30 w31 w32 hF
      rw [f_X4_fault_L6] at hF
      refine kw_iload_n X dX4_fault_6 rfl 1 rfl ?_
      refine kw_bipush X dX4_fault_7 cb_80 ?_
      refine kw_icmp_gt X 58 dX4_fault_9 (by decide) (fun q33 => ?_) (fun q33 => ?_)
      · replace hF := (if_pos q33).symm.trans hF
        refine kw_aload_n X dX4_fault_58 rfl 0 rfl ?_
        refine kw_get X inX4 0 rfl rfl 2 (by decide) rfl gw_228 rfl dX4_fault_59 ?_
        obtain ⟨rfl, rfl, rfl, rfl, rfl⟩ := si5 hF
        exact hret _ _ (vp_nar_int _) dX4_fault_62
      · replace hF := (if_neg q33).symm.trans hF
        refine kw_aload_n X dX4_fault_12 rfl 0 rfl ?_
        obtain ⟨b34, b35, b36, b37, b38, hx38, hF⟩ := ob5_ex hF
        refine kw_aei X (r := .int b34) (As := []) (st := []) E (c_X4_readOrder l D cI cC cR h0 h1 ch len w29 w30 w31 w32 b34 b35 b36 b37 b38 hx38) vl_X4_22 yv_X4_readOrder ⟨Nat.le_of_ble_eq_true rfl, Nat.le_of_ble_eq_true rfl⟩ ⟨rfl, rfl⟩ ⟨Nat.zero_le _, Nat.zero_le _⟩ 0 rfl rfl rfl rfl (Nat.le_of_ble_eq_true rfl) dX4_fault_13 ?_
        refine kw_if_ne X 24 dX4_fault_16 (by decide) (fun q39 => ?_) (fun q39 => ?_)
        · replace hF := (if_neg q39).symm.trans hF
          refine kw_aload_n X dX4_fault_24 rfl 0 rfl ?_
          refine kw_get X inX4 0 rfl rfl 2 (by decide) rfl gw_228 rfl dX4_fault_25 ?_
          refine kw_aload_n X dX4_fault_28 rfl 0 rfl ?_
          refine kw_get X inX4 0 rfl rfl 1 (by decide) rfl gw_226 rfl dX4_fault_29 ?_
          refine kw_icmp_lt X 38 dX4_fault_32 (by decide) (fun q40 => ?_) (fun q40 => ?_)
          · replace hF := (if_pos q40).symm.trans hF
            refine kw_aload_n X dX4_fault_38 rfl 0 rfl ?_
            refine kw_bipush X dX4_fault_39 cb_59 ?_
            obtain ⟨b41, b42, hx42, hF⟩ := ob2_ex hF
            refine kw_aei X (r := .int b41) (As := [.int 59]) (st := []) E (c_X4_accept l D cI cC cR h0 h1 ch len b35 b36 b37 b38 59 b41 b42 hx42) vl_X4_29 yv_X4_accept ⟨Nat.le_of_ble_eq_true rfl, Nat.le_of_ble_eq_true rfl⟩ ⟨rfl, rfl⟩ ⟨Nat.zero_le _, Nat.zero_le _⟩ 0 rfl rfl rfl rfl (Nat.le_of_ble_eq_true rfl) dX4_fault_41 ?_
            refine kw_if_ne X 52 dX4_fault_44 (by decide) (fun q43 => ?_) (fun q43 => ?_)
            · replace hF := (if_neg q43).symm.trans hF
              refine kw_iinc (lo' := [(0, .ref h0), (1, .int (v1_28 + 1))]) X dX4_fault_52 1 rfl (congrArg (fun w => v1_28 + w) ci_1) (by decide) [1, 0] rfl ?_
              refine kw_goto X 6 dX4_fault_55 (by decide) ?_
              exact ih6 _ _ _ _ _ hF
            · replace hF := (if_pos q43).symm.trans hF
              refine kw_aload_n X dX4_fault_47 rfl 0 rfl ?_
              refine kw_get X inX4 0 rfl rfl 2 (by decide) rfl gw_228 rfl dX4_fault_48 ?_
              obtain ⟨rfl, rfl, rfl, rfl, rfl⟩ := si5 hF
              exact hret _ _ (vp_nar_int _) dX4_fault_51
          · replace hF := (if_neg q40).symm.trans hF
            refine kw_bipush X dX4_fault_35 cb_m9 ?_
            obtain ⟨rfl, rfl, rfl, rfl, rfl⟩ := si5 hF
            exact hret _ _ (vp_nar_int _) dX4_fault_37
        · replace hF := (if_pos q39).symm.trans hF
          refine kw_aload_n X dX4_fault_19 rfl 0 rfl ?_
          refine kw_get X inX4 0 rfl rfl 2 (by decide) rfl gw_228 rfl dX4_fault_20 ?_
          obtain ⟨rfl, rfl, rfl, rfl, rfl⟩ := si5 hF
          exact hret _ _ (vp_nar_int _) dX4_fault_23
  exact hL6 Z _ _ _ _ _ hF
