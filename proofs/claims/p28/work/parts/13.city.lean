-- X0_spendable
def f_X0_spendable (Z : Nat) (ta : Nat → Int32) (house : Int32) : Option (Int32) :=
  (ob1 (f_X5_numberOfKind Z ta 1) (fun (b1 : Int32) => (some (house - (10 * b1)))))
abbrev rm_X0_spendable : Room := { frames := 3, cells := 0, slots := 0, locals := 65 }
set_option maxHeartbeats 4000000 in
set_option maxRecDepth 100000 in
theorem c_X0_spendable (l : Launch) (D : va_G) (cI cC cR : ClassId) (h0 h1 h2 h3 h4 h5 h6 h7 h8 h9 h10 h11 h12 h13 h14 h15 h16 h17 h18 h19 : Nat) (sp : Nat → Int32) (we : Nat → Int32) (le : Nat → Int32) (ta : Nat → Int32) (num : Int32) (rooms : Nat → Int32) (purses : Nat → Int32) (showers : Nat → Int32) (homes : Nat → Int32) (paid : Nat → Int32) (hours : Int32) (house : Int32) (spent : Int32) (loans : Int32) (surges : Int32) (rate : Int32) (Z : Nat) (r : Int32) (hF : f_X0_spendable Z ta house = some r) : MPi l yX0_spendable cX0_spendable 1 (some .int) rm_X0_spendable D (TY cI cC cR) [.ref h0] (wX0 cI h0 h1 h2 h3 h4 h5 h6 h7 h8 h9 h10 h11 h12 h13 h14 h15 h16 h17 h18 h19 sp we le ta num rooms purses showers homes paid hours house spent loans surges rate) (.int r) := by
  refine me_p pn_X0 (Nat.le_of_ble_eq_true rfl) rfl (fun Γ X hret => ?_)
  unfold f_X0_spendable at hF
  refine kw_aload_n X dX0_spendable_0 rfl 0 rfl ?_
  refine kw_get X inX0 0 rfl rfl 7 (by decide) rfl gw_109 rfl dX0_spendable_1 ?_
  refine kw_bipush X dX0_spendable_4 cb_10 ?_
  refine kw_aload_n X dX0_spendable_6 rfl 0 rfl ?_
  refine kw_get X inX0 0 rfl rfl 0 (by decide) rfl gw_95 rfl dX0_spendable_7 ?_
  refine kw_iconst X dX0_spendable_10 ci_1 ?_
  obtain ⟨b1, hx1, hF⟩ := ob1_ex hF
  refine kw_vp X (r := .int b1) (As := [.int 1]) (st := [.int 10, .int house]) (c_X5_numberOfKind l D cI cC cR h1 h2 h3 h4 h5 h6 h7 h8 h9 sp we le ta num 1 Z b1 hx1) vl_X0_68 yv_X5_numberOfKind ⟨Nat.le_of_ble_eq_true rfl, Nat.le_of_ble_eq_true rfl⟩ ⟨rfl, rfl⟩ ⟨Nat.zero_le _, Nat.zero_le _⟩ 1 rfl rfl [1, 2, 3, 4, 5, 6, 7, 8, 9] rfl rfl rfl rfl (Nat.le_of_ble_eq_true rfl) dX0_spendable_11 ?_
  refine kw_imul X dX0_spendable_14 ?_
  refine kw_isub X dX0_spendable_15 ?_
  obtain rfl := si1 hF
  exact hret _ _ _ (vp_nar_int _) dX0_spendable_16
-- X0_spend
def f_X0_spend (house : Int32) (spent : Int32) (p1 : Int32) : Int32 × Int32 :=
  ((house - p1), (spent + p1))
abbrev rm_X0_spend : Room := { frames := 0, cells := 0, slots := 0, locals := 0 }
set_option maxHeartbeats 4000000 in
set_option maxRecDepth 100000 in
theorem c_X0_spend (l : Launch) (D : va_G) (cI cC cR : ClassId) (h0 h1 h2 h3 h4 h5 h6 h7 h8 h9 h10 h11 h12 h13 h14 h15 h16 h17 h18 h19 : Nat) (sp : Nat → Int32) (we : Nat → Int32) (le : Nat → Int32) (ta : Nat → Int32) (num : Int32) (rooms : Nat → Int32) (purses : Nat → Int32) (showers : Nat → Int32) (homes : Nat → Int32) (paid : Nat → Int32) (hours : Int32) (house : Int32) (spent : Int32) (loans : Int32) (surges : Int32) (rate : Int32) (p1 : Int32) (house' : Int32) (spent' : Int32) (hF : f_X0_spend house spent p1 = (house', spent')) : MEq l yX0_spend cX0_spend 2 none rm_X0_spend D (TY cI cC cR) [.ref h0, .int p1] (wX0 cI h0 h1 h2 h3 h4 h5 h6 h7 h8 h9 h10 h11 h12 h13 h14 h15 h16 h17 h18 h19 sp we le ta num rooms purses showers homes paid hours house spent loans surges rate) (wX0 cI h0 h1 h2 h3 h4 h5 h6 h7 h8 h9 h10 h11 h12 h13 h14 h15 h16 h17 h18 h19 sp we le ta num rooms purses showers homes paid hours house' spent' loans surges rate) none := by
  refine me_v pn_X0 (Nat.le_of_ble_eq_true rfl) rfl (fun Γ X E hret => ?_)
  unfold f_X0_spend at hF
  refine kw_aload_n X dX0_spend_0 rfl 0 rfl ?_
  refine kw_dup X dX0_spend_1 rfl ?_
  refine kw_get X inX0 0 rfl rfl 7 (by decide) rfl gw_109 rfl dX0_spend_2 ?_
  refine kw_iload_n X dX0_spend_5 rfl 1 rfl ?_
  refine kw_isub X dX0_spend_6 ?_
  refine kw_put X E inX0 tyX0 tyX0_ok nmX0 0 rfl rfl 7 (by decide) rfl gw_109 rfl pfd_I (vp_nar_int _) rfl (Nat.le_of_ble_eq_true rfl) (ws' := wX0 cI h0 h1 h2 h3 h4 h5 h6 h7 h8 h9 h10 h11 h12 h13 h14 h15 h16 h17 h18 h19 sp we le ta num rooms purses showers homes paid hours (house - p1) spent loans surges rate) rfl dX0_spend_7 ?_
  refine kw_aload_n X dX0_spend_10 rfl 0 rfl ?_
  refine kw_dup X dX0_spend_11 rfl ?_
  refine kw_get X inX0 0 rfl rfl 8 (by decide) rfl gw_111 rfl dX0_spend_12 ?_
  refine kw_iload_n X dX0_spend_15 rfl 1 rfl ?_
  refine kw_iadd X dX0_spend_16 ?_
  refine kw_put X E inX0 tyX0 tyX0_ok nmX0 0 rfl rfl 8 (by decide) rfl gw_111 rfl pfd_I (vp_nar_int _) rfl (Nat.le_of_ble_eq_true rfl) (ws' := wX0 cI h0 h1 h2 h3 h4 h5 h6 h7 h8 h9 h10 h11 h12 h13 h14 h15 h16 h17 h18 h19 sp we le ta num rooms purses showers homes paid hours (house - p1) (spent + p1) loans surges rate) rfl dX0_spend_17 ?_
  obtain ⟨rfl, rfl⟩ := ti2 hF
  exact hret _ _ dX0_spend_20
-- X0_freeAt
def f_X0_freeAt (ta : Nat → Int32) (rooms : Nat → Int32) (p1 : Int32) : Int32 :=
  ((f_X2_at 8 rooms p1) - (f_X5_numberAt ta p1))
abbrev rm_X0_freeAt : Room := { frames := 2, cells := 0, slots := 0, locals := 42 }
set_option maxHeartbeats 4000000 in
set_option maxRecDepth 100000 in
theorem c_X0_freeAt (l : Launch) (D : va_G) (cI cC cR : ClassId) (h0 h1 h2 h3 h4 h5 h6 h7 h8 h9 h10 h11 h12 h13 h14 h15 h16 h17 h18 h19 : Nat) (sp : Nat → Int32) (we : Nat → Int32) (le : Nat → Int32) (ta : Nat → Int32) (num : Int32) (rooms : Nat → Int32) (purses : Nat → Int32) (showers : Nat → Int32) (homes : Nat → Int32) (paid : Nat → Int32) (hours : Int32) (house : Int32) (spent : Int32) (loans : Int32) (surges : Int32) (rate : Int32) (p1 : Int32) (r : Int32) (hF : f_X0_freeAt ta rooms p1 = r) : MPi l yX0_freeAt cX0_freeAt 2 (some .int) rm_X0_freeAt D (TY cI cC cR) [.ref h0, .int p1] (wX0 cI h0 h1 h2 h3 h4 h5 h6 h7 h8 h9 h10 h11 h12 h13 h14 h15 h16 h17 h18 h19 sp we le ta num rooms purses showers homes paid hours house spent loans surges rate) (.int r) := by
  refine me_p pn_X0 (Nat.le_of_ble_eq_true rfl) rfl (fun Γ X hret => ?_)
  unfold f_X0_freeAt at hF
  refine kw_aload_n X dX0_freeAt_0 rfl 0 rfl ?_
  refine kw_get X inX0 0 rfl rfl 1 (by decide) rfl gw_97 rfl dX0_freeAt_1 ?_
  refine kw_iload_n X dX0_freeAt_4 rfl 1 rfl ?_
  refine kw_vp X (r := .int (f_X2_at 8 rooms p1)) (As := [.int p1]) (st := []) (c_X2_at l D cI cC cR h10 h11 8 (by decide) rooms p1 (f_X2_at 8 rooms p1) rfl) vl_X0_72 yv_X2_at ⟨Nat.le_of_ble_eq_true rfl, Nat.le_of_ble_eq_true rfl⟩ ⟨rfl, rfl⟩ ⟨Nat.zero_le _, Nat.zero_le _⟩ 10 rfl rfl [10, 11] rfl rfl rfl rfl (Nat.le_of_ble_eq_true rfl) dX0_freeAt_5 ?_
  refine kw_aload_n X dX0_freeAt_8 rfl 0 rfl ?_
  refine kw_get X inX0 0 rfl rfl 0 (by decide) rfl gw_95 rfl dX0_freeAt_9 ?_
  refine kw_iload_n X dX0_freeAt_12 rfl 1 rfl ?_
  refine kw_vp X (r := .int (f_X5_numberAt ta p1)) (As := [.int p1]) (st := [.int (f_X2_at 8 rooms p1)]) (c_X5_numberAt l D cI cC cR h1 h2 h3 h4 h5 h6 h7 h8 h9 sp we le ta num p1 (f_X5_numberAt ta p1) rfl) vl_X0_75 yv_X5_numberAt ⟨Nat.le_of_ble_eq_true rfl, Nat.le_of_ble_eq_true rfl⟩ ⟨rfl, rfl⟩ ⟨Nat.zero_le _, Nat.zero_le _⟩ 1 rfl rfl [1, 2, 3, 4, 5, 6, 7, 8, 9] rfl rfl rfl rfl (Nat.le_of_ble_eq_true rfl) dX0_freeAt_13 ?_
  refine kw_isub X dX0_freeAt_16 ?_
  obtain rfl := ti1 hF
  exact hret _ _ _ (vp_nar_int _) dX0_freeAt_17
-- X0_hasOne
def f_X0_hasOne (ta : Nat → Int32) (p1 : Int32) : Int32 :=
  (if 0 < (f_X5_numberAt ta (8 + p1)) then 1 else 0)
abbrev rm_X0_hasOne : Room := { frames := 2, cells := 0, slots := 0, locals := 42 }
set_option maxHeartbeats 4000000 in
set_option maxRecDepth 100000 in
theorem c_X0_hasOne (l : Launch) (D : va_G) (cI cC cR : ClassId) (h0 h1 h2 h3 h4 h5 h6 h7 h8 h9 h10 h11 h12 h13 h14 h15 h16 h17 h18 h19 : Nat) (sp : Nat → Int32) (we : Nat → Int32) (le : Nat → Int32) (ta : Nat → Int32) (num : Int32) (rooms : Nat → Int32) (purses : Nat → Int32) (showers : Nat → Int32) (homes : Nat → Int32) (paid : Nat → Int32) (hours : Int32) (house : Int32) (spent : Int32) (loans : Int32) (surges : Int32) (rate : Int32) (p1 : Int32) (r : Int32) (hF : f_X0_hasOne ta p1 = r) : MPi l yX0_hasOne cX0_hasOne 2 (some .boolean) rm_X0_hasOne D (TY cI cC cR) [.ref h0, .int p1] (wX0 cI h0 h1 h2 h3 h4 h5 h6 h7 h8 h9 h10 h11 h12 h13 h14 h15 h16 h17 h18 h19 sp we le ta num rooms purses showers homes paid hours house spent loans surges rate) (.int r) := by
  refine me_p pn_X0 (Nat.le_of_ble_eq_true rfl) rfl (fun Γ X hret => ?_)
  unfold f_X0_hasOne at hF
  refine kw_aload_n X dX0_hasOne_0 rfl 0 rfl ?_
  refine kw_get X inX0 0 rfl rfl 0 (by decide) rfl gw_95 rfl dX0_hasOne_1 ?_
  refine kw_bipush X dX0_hasOne_4 cb_8 ?_
  refine kw_iload_n X dX0_hasOne_6 rfl 1 rfl ?_
  refine kw_iadd X dX0_hasOne_7 ?_
  refine kw_vp X (r := .int (f_X5_numberAt ta (8 + p1))) (As := [.int (8 + p1)]) (st := []) (c_X5_numberAt l D cI cC cR h1 h2 h3 h4 h5 h6 h7 h8 h9 sp we le ta num (8 + p1) (f_X5_numberAt ta (8 + p1)) rfl) vl_X0_75 yv_X5_numberAt ⟨Nat.le_of_ble_eq_true rfl, Nat.le_of_ble_eq_true rfl⟩ ⟨rfl, rfl⟩ ⟨Nat.zero_le _, Nat.zero_le _⟩ 1 rfl rfl [1, 2, 3, 4, 5, 6, 7, 8, 9] rfl rfl rfl rfl (Nat.le_of_ble_eq_true rfl) dX0_hasOne_8 ?_
  refine kw_if_le X 18 dX0_hasOne_11 (by decide) (fun q1 => ?_) (fun q1 => ?_)
  · replace hF := (if_neg q1).symm.trans hF
    refine kw_iconst X dX0_hasOne_18 ci_0 ?_
    obtain rfl := ti1 hF
    exact hret _ _ _ rfl dX0_hasOne_19
  · replace hF := (if_pos q1).symm.trans hF
    refine kw_iconst X dX0_hasOne_14 ci_1 ?_
    refine kw_goto X 19 dX0_hasOne_15 (by decide) ?_
    obtain rfl := ti1 hF
    exact hret _ _ _ rfl dX0_hasOne_19
-- X0_inHand
def f_X0_inHand (Z : Nat) (sp : Nat → Int32) (num : Int32) (p1 : Int32) : Option (Int32) :=
  (ob1 (f_X5_nthAt Z sp num (8 + p1) 0) (fun (b1 : Int32) => (some b1)))
abbrev rm_X0_inHand : Room := { frames := 2, cells := 0, slots := 0, locals := 45 }
set_option maxHeartbeats 4000000 in
set_option maxRecDepth 100000 in
theorem c_X0_inHand (l : Launch) (D : va_G) (cI cC cR : ClassId) (h0 h1 h2 h3 h4 h5 h6 h7 h8 h9 h10 h11 h12 h13 h14 h15 h16 h17 h18 h19 : Nat) (sp : Nat → Int32) (we : Nat → Int32) (le : Nat → Int32) (ta : Nat → Int32) (num : Int32) (rooms : Nat → Int32) (purses : Nat → Int32) (showers : Nat → Int32) (homes : Nat → Int32) (paid : Nat → Int32) (hours : Int32) (house : Int32) (spent : Int32) (loans : Int32) (surges : Int32) (rate : Int32) (p1 : Int32) (Z : Nat) (r : Int32) (hF : f_X0_inHand Z sp num p1 = some r) : MPi l yX0_inHand cX0_inHand 2 (some .int) rm_X0_inHand D (TY cI cC cR) [.ref h0, .int p1] (wX0 cI h0 h1 h2 h3 h4 h5 h6 h7 h8 h9 h10 h11 h12 h13 h14 h15 h16 h17 h18 h19 sp we le ta num rooms purses showers homes paid hours house spent loans surges rate) (.int r) := by
  refine me_p pn_X0 (Nat.le_of_ble_eq_true rfl) rfl (fun Γ X hret => ?_)
  unfold f_X0_inHand at hF
  refine kw_aload_n X dX0_inHand_0 rfl 0 rfl ?_
  refine kw_get X inX0 0 rfl rfl 0 (by decide) rfl gw_95 rfl dX0_inHand_1 ?_
  refine kw_bipush X dX0_inHand_4 cb_8 ?_
  refine kw_iload_n X dX0_inHand_6 rfl 1 rfl ?_
  refine kw_iadd X dX0_inHand_7 ?_
  refine kw_iconst X dX0_inHand_8 ci_0 ?_
  obtain ⟨b1, hx1, hF⟩ := ob1_ex hF
  refine kw_vp X (r := .int b1) (As := [.int (8 + p1), .int 0]) (st := []) (c_X5_nthAt l D cI cC cR h1 h2 h3 h4 h5 h6 h7 h8 h9 sp we le ta num (8 + p1) 0 Z b1 hx1) vl_X0_78 yv_X5_nthAt ⟨Nat.le_of_ble_eq_true rfl, Nat.le_of_ble_eq_true rfl⟩ ⟨rfl, rfl⟩ ⟨Nat.zero_le _, Nat.zero_le _⟩ 1 rfl rfl [1, 2, 3, 4, 5, 6, 7, 8, 9] rfl rfl rfl rfl (Nat.le_of_ble_eq_true rfl) dX0_inHand_9 ?_
  obtain rfl := si1 hF
  exact hret _ _ _ (vp_nar_int _) dX0_inHand_12
-- X0_buyingError
def f_X0_buyingError (Z : Nat) (ta : Nat → Int32) (num : Int32) (rooms : Nat → Int32) (house : Int32) (p1 : Int32) (p2 : Int32) : Option (Int32) :=
  (if (f_X6_outside p1 0 7) = 0 then (if (f_X6_outside p2 1 20) = 0 then (ob1 (f_X0_spendable Z ta house) (fun (b3 : Int32) => (if b3 < (5 * p2) then (some (-2)) else (pl1 (if (60 - num) < p2 then 0 else (if (f_X0_freeAt ta rooms p1) < p2 then 0 else 1)) (fun (x7 : Int32) => (if x7 = 0 then (some (-3)) else (some 0))))))) else (some (-1))) else (some (-1)))
abbrev rm_X0_buyingError : Room := { frames := 4, cells := 0, slots := 0, locals := 85 }
set_option maxHeartbeats 4000000 in
set_option maxRecDepth 100000 in
theorem c_X0_buyingError (l : Launch) (D : va_G) (cI cC cR : ClassId) (h0 h1 h2 h3 h4 h5 h6 h7 h8 h9 h10 h11 h12 h13 h14 h15 h16 h17 h18 h19 : Nat) (sp : Nat → Int32) (we : Nat → Int32) (le : Nat → Int32) (ta : Nat → Int32) (num : Int32) (rooms : Nat → Int32) (purses : Nat → Int32) (showers : Nat → Int32) (homes : Nat → Int32) (paid : Nat → Int32) (hours : Int32) (house : Int32) (spent : Int32) (loans : Int32) (surges : Int32) (rate : Int32) (p1 : Int32) (p2 : Int32) (Z : Nat) (r : Int32) (hF : f_X0_buyingError Z ta num rooms house p1 p2 = some r) : MPi l yX0_buyingError cX0_buyingError 4 (some .int) rm_X0_buyingError D (TY cI cC cR) [.ref h0, .int p1, .int p2] (wX0 cI h0 h1 h2 h3 h4 h5 h6 h7 h8 h9 h10 h11 h12 h13 h14 h15 h16 h17 h18 h19 sp we le ta num rooms purses showers homes paid hours house spent loans surges rate) (.int r) := by
  refine me_p pn_X0 (Nat.le_of_ble_eq_true rfl) rfl (fun Γ X hret => ?_)
  unfold f_X0_buyingError at hF
  refine kw_iload_n X dX0_buyingError_0 rfl 1 rfl ?_
  refine kw_iconst X dX0_buyingError_1 ci_0 ?_
  refine kw_bipush X dX0_buyingError_2 cb_7 ?_
  refine kw_snp X (r := .int (f_X6_outside p1 0 7)) (As := [.int p1, .int 0, .int 7]) (st := []) (c_X6_outside l D cI cC cR  p1 0 7 (f_X6_outside p1 0 7) rfl) nw_27 vn_X0_82 yv_X6_outside ⟨Nat.le_of_ble_eq_true rfl, Nat.le_of_ble_eq_true rfl⟩ ⟨rfl, rfl⟩ ⟨Nat.zero_le _, Nat.zero_le _⟩ [] rfl rfl rfl rfl (Nat.le_of_ble_eq_true rfl) dX0_buyingError_4 ?_
  refine kw_if_ne X 20 dX0_buyingError_7 (by decide) (fun q1 => ?_) (fun q1 => ?_)
  · replace hF := (if_neg q1).symm.trans hF
    refine kw_iconst X dX0_buyingError_20 ci_m1 ?_
    obtain rfl := si1 hF
    exact hret _ _ _ (vp_nar_int _) dX0_buyingError_21
  · replace hF := (if_pos q1).symm.trans hF
    refine kw_iload_n X dX0_buyingError_10 rfl 2 rfl ?_
    refine kw_iconst X dX0_buyingError_11 ci_1 ?_
    refine kw_bipush X dX0_buyingError_12 cb_20 ?_
    refine kw_snp X (r := .int (f_X6_outside p2 1 20)) (As := [.int p2, .int 1, .int 20]) (st := []) (c_X6_outside l D cI cC cR  p2 1 20 (f_X6_outside p2 1 20) rfl) nw_27 vn_X0_82 yv_X6_outside ⟨Nat.le_of_ble_eq_true rfl, Nat.le_of_ble_eq_true rfl⟩ ⟨rfl, rfl⟩ ⟨Nat.zero_le _, Nat.zero_le _⟩ [] rfl rfl rfl rfl (Nat.le_of_ble_eq_true rfl) dX0_buyingError_14 ?_
    refine kw_if_eq X 22 dX0_buyingError_17 (by decide) (fun q2 => ?_) (fun q2 => ?_)
    · replace hF := (if_pos q2).symm.trans hF
      refine kw_aload_n X dX0_buyingError_22 rfl 0 rfl ?_
      obtain ⟨b3, hx3, hF⟩ := ob1_ex hF
      refine kw_ap X (r := .int b3) (As := []) (st := []) (c_X0_spendable l D cI cC cR h0 h1 h2 h3 h4 h5 h6 h7 h8 h9 h10 h11 h12 h13 h14 h15 h16 h17 h18 h19 sp we le ta num rooms purses showers homes paid hours house spent loans surges rate Z b3 hx3) vl_X0_86 yv_X0_spendable ⟨Nat.le_of_ble_eq_true rfl, Nat.le_of_ble_eq_true rfl⟩ ⟨rfl, rfl⟩ ⟨Nat.zero_le _, Nat.zero_le _⟩ 0 rfl rfl rfl rfl (Nat.le_of_ble_eq_true rfl) dX0_buyingError_23 ?_
      refine kw_iconst X dX0_buyingError_26 ci_5 ?_
      refine kw_iload_n X dX0_buyingError_27 rfl 2 rfl ?_
      refine kw_imul X dX0_buyingError_28 ?_
      refine kw_icmp_ge X 35 dX0_buyingError_29 (by decide) (fun q4 => ?_) (fun q4 => ?_)
      · replace hF := (if_neg q4).symm.trans hF
        refine kw_iload_n X dX0_buyingError_35 rfl 2 rfl ?_
        refine kw_bipush X dX0_buyingError_36 cb_60 ?_
        refine kw_aload_n X dX0_buyingError_38 rfl 0 rfl ?_
        refine kw_get X inX0 0 rfl rfl 0 (by decide) rfl gw_95 rfl dX0_buyingError_39 ?_
        refine kw_getN X inX5 1 rfl rfl 4 (by decide) rfl nw_8 rfl dX0_buyingError_42 ?_
        refine kw_isub X dX0_buyingError_45 ?_
        obtain ⟨x7, hx8, hF⟩ := pl1_ex hF
        have J : KW Γ 0 0 (wX0 cI h0 h1 h2 h3 h4 h5 h6 h7 h8 h9 h10 h11 h12 h13 h14 h15 h16 h17 h18 h19 sp we le ta num rooms purses showers homes paid hours house spent loans surges rate) [] 63 [.int x7] := by
          refine kw_istore_n (lo' := [(3, .int x7)]) X dX0_buyingError_63 rfl (by decide) [0] rfl ?_
          refine kw_iload_n X dX0_buyingError_64 rfl 0 rfl ?_
          refine kw_if_eq X 72 dX0_buyingError_65 (by decide) (fun q9 => ?_) (fun q9 => ?_)
          · replace hF := (if_pos q9).symm.trans hF
            refine kw_bipush X dX0_buyingError_72 cb_m3 ?_
            obtain rfl := si1 hF
            exact hret _ _ _ (vp_nar_int _) dX0_buyingError_74
          · replace hF := (if_neg q9).symm.trans hF
            refine kw_iconst X dX0_buyingError_68 ci_0 ?_
            refine kw_goto X 74 dX0_buyingError_69 (by decide) ?_
            obtain rfl := si1 hF
            exact hret _ _ _ (vp_nar_int _) dX0_buyingError_74
        replace hF := hx8
        refine kw_icmp_gt X 62 dX0_buyingError_46 (by decide) (fun q5 => ?_) (fun q5 => ?_)
        · replace hF := (if_pos q5).symm.trans hF
          refine kw_iconst X dX0_buyingError_62 ci_0 ?_
          refine kw_loc (lo' := []) [] rfl ?_
          obtain rfl := ti1 hF
          exact J
        · replace hF := (if_neg q5).symm.trans hF
          refine kw_iload_n X dX0_buyingError_49 rfl 2 rfl ?_
          refine kw_aload_n X dX0_buyingError_50 rfl 0 rfl ?_
          refine kw_iload_n X dX0_buyingError_51 rfl 1 rfl ?_
          refine kw_ap X (r := .int (f_X0_freeAt ta rooms p1)) (As := [.int p1]) (st := [.int p2]) (c_X0_freeAt l D cI cC cR h0 h1 h2 h3 h4 h5 h6 h7 h8 h9 h10 h11 h12 h13 h14 h15 h16 h17 h18 h19 sp we le ta num rooms purses showers homes paid hours house spent loans surges rate p1 (f_X0_freeAt ta rooms p1) rfl) vl_X0_93 yv_X0_freeAt ⟨Nat.le_of_ble_eq_true rfl, Nat.le_of_ble_eq_true rfl⟩ ⟨rfl, rfl⟩ ⟨Nat.zero_le _, Nat.zero_le _⟩ 0 rfl rfl rfl rfl (Nat.le_of_ble_eq_true rfl) dX0_buyingError_52 ?_
          refine kw_icmp_gt X 62 dX0_buyingError_55 (by decide) (fun q10 => ?_) (fun q10 => ?_)
          · replace hF := (if_pos q10).symm.trans hF
            refine kw_iconst X dX0_buyingError_62 ci_0 ?_
            refine kw_loc (lo' := []) [] rfl ?_
            obtain rfl := ti1 hF
            exact J
          · replace hF := (if_neg q10).symm.trans hF
            refine kw_iconst X dX0_buyingError_58 ci_1 ?_
            refine kw_goto X 63 dX0_buyingError_59 (by decide) ?_
            refine kw_loc (lo' := []) [] rfl ?_
            obtain rfl := ti1 hF
            exact J
      · replace hF := (if_pos q4).symm.trans hF
        refine kw_bipush X dX0_buyingError_32 cb_m2 ?_
        obtain rfl := si1 hF
        exact hret _ _ _ (vp_nar_int _) dX0_buyingError_34
    · replace hF := (if_neg q2).symm.trans hF
      refine kw_iconst X dX0_buyingError_20 ci_m1 ?_
      obtain rfl := si1 hF
      exact hret _ _ _ (vp_nar_int _) dX0_buyingError_21
-- X0_purchase
def f_X0_purchase_L11 (p1 : Int32) (p2 : Int32) : Nat → Int32 → Int32 → (Nat → Int32) → (Nat → Int32) → Option (Int32 × (Nat → Int32) × (Nat → Int32))
  | 0, _, _, _, _ => none
  | F + 1, v4_18, w19, w20, w21 => (if v4_18 < p2 then (pl3 (f_X5_addNew w20 w21 w19 p1) (fun (m23 : Nat → Int32) (m24 : Nat → Int32) (b25 : Int32) => (f_X0_purchase_L11 p1 p2 F (v4_18 + 1) b25 m23 m24))) else (some (w19, w20, w21)))
def f_X0_purchase (Z : Nat) (sp : Nat → Int32) (ta : Nat → Int32) (num : Int32) (house : Int32) (spent : Int32) (p1 : Int32) (p2 : Int32) : Option (Int32 × (Nat → Int32) × (Nat → Int32) × Int32 × Int32 × Int32) :=
  (ob3 (f_X0_purchase_L11 p1 p2 Z 0 num sp ta) (fun (e13 : Int32) (w14 : Nat → Int32) (w15 : Nat → Int32) => (pl2 (f_X0_spend house spent (5 * p2)) (fun (b16 : Int32) (b17 : Int32) => (some (num, w14, w15, e13, b16, b17))))))
abbrev rm_X0_purchase : Room := { frames := 2, cells := 0, slots := 0, locals := 43 }
set_option maxHeartbeats 4000000 in
set_option maxRecDepth 100000 in
theorem c_X0_purchase (l : Launch) (D : va_G) (cI cC cR : ClassId) (h0 h1 h2 h3 h4 h5 h6 h7 h8 h9 h10 h11 h12 h13 h14 h15 h16 h17 h18 h19 : Nat) (sp : Nat → Int32) (we : Nat → Int32) (le : Nat → Int32) (ta : Nat → Int32) (num : Int32) (rooms : Nat → Int32) (purses : Nat → Int32) (showers : Nat → Int32) (homes : Nat → Int32) (paid : Nat → Int32) (hours : Int32) (house : Int32) (spent : Int32) (loans : Int32) (surges : Int32) (rate : Int32) (p1 : Int32) (p2 : Int32) (Z : Nat) (r : Int32) (sp' : Nat → Int32) (ta' : Nat → Int32) (num' : Int32) (house' : Int32) (spent' : Int32) (hF : f_X0_purchase Z sp ta num house spent p1 p2 = some (r, sp', ta', num', house', spent')) : MEq l yX0_purchase cX0_purchase 5 (some .int) rm_X0_purchase D (TY cI cC cR) [.ref h0, .int p1, .int p2] (wX0 cI h0 h1 h2 h3 h4 h5 h6 h7 h8 h9 h10 h11 h12 h13 h14 h15 h16 h17 h18 h19 sp we le ta num rooms purses showers homes paid hours house spent loans surges rate) (wX0 cI h0 h1 h2 h3 h4 h5 h6 h7 h8 h9 h10 h11 h12 h13 h14 h15 h16 h17 h18 h19 sp' we le ta' num' rooms purses showers homes paid hours house' spent' loans surges rate) (some (.int r)) := by
  refine me_e pn_X0 (Nat.le_of_ble_eq_true rfl) rfl (fun Γ X E hret => ?_)
  unfold f_X0_purchase at hF
  refine kw_aload_n X dX0_purchase_0 rfl 0 rfl ?_
  refine kw_get X inX0 0 rfl rfl 0 (by decide) rfl gw_95 rfl dX0_purchase_1 ?_
  refine kw_getN X inX5 1 rfl rfl 4 (by decide) rfl nw_8 rfl dX0_purchase_4 ?_
  refine kw_istore_n (lo' := [(0, .ref h0), (1, .int p1), (2, .int p2), (3, .int num)]) X dX0_purchase_7 rfl (by decide) [1, 2, 3, 0] rfl ?_
  refine kw_iconst X dX0_purchase_8 ci_0 ?_
  refine kw_istore (lo' := [(0, .ref h0), (1, .int p1), (2, .int p2), (3, .int num), (4, .int 0)]) X dX0_purchase_9 (by decide) [1, 2, 3, 4, 0] rfl ?_
  obtain ⟨e13, w14, w15, hx, hF⟩ := ob3_ex hF
  have J : KW Γ 0 0 (wX0 cI h0 h1 h2 h3 h4 h5 h6 h7 h8 h9 h10 h11 h12 h13 h14 h15 h16 h17 h18 h19 w14 we le w15 e13 rooms purses showers homes paid hours house spent loans surges rate) [(0, .ref h0), (2, .int p2), (3, .int num)] 31 [] := by
    refine kw_aload_n X dX0_purchase_31 rfl 0 rfl ?_
    refine kw_iconst X dX0_purchase_32 ci_5 ?_
    refine kw_iload_n X dX0_purchase_33 rfl 1 rfl ?_
    refine kw_imul X dX0_purchase_34 ?_
    obtain ⟨b16, b17, hx17, hF⟩ := pl2_ex hF
    refine kw_aev X (As := [.int (5 * p2)]) (st := []) E (c_X0_spend l D cI cC cR h0 h1 h2 h3 h4 h5 h6 h7 h8 h9 h10 h11 h12 h13 h14 h15 h16 h17 h18 h19 w14 we le w15 e13 rooms purses showers homes paid hours house spent loans surges rate (5 * p2) b16 b17 hx17) vl_X0_100 yv_X0_spend ⟨Nat.le_of_ble_eq_true rfl, Nat.le_of_ble_eq_true rfl⟩ ⟨rfl, rfl⟩ ⟨Nat.zero_le _, Nat.zero_le _⟩ 0 rfl rfl rfl rfl (Nat.le_of_ble_eq_true rfl) dX0_purchase_35 ?_
    refine kw_iload_n X dX0_purchase_38 rfl 2 rfl ?_
    obtain ⟨rfl, rfl, rfl, rfl, rfl, rfl⟩ := si6 hF
    exact hret _ _ (vp_nar_int _) dX0_purchase_39
  have hL11 : ∀ (F : Nat) (v4_18 : Int32) (w19 : Int32) (w20 : Nat → Int32) (w21 : Nat → Int32), f_X0_purchase_L11 p1 p2 F v4_18 w19 w20 w21 = some (e13, w14, w15) → KW Γ 0 0 (wX0 cI h0 h1 h2 h3 h4 h5 h6 h7 h8 h9 h10 h11 h12 h13 h14 h15 h16 h17 h18 h19 w20 we le w21 w19 rooms purses showers homes paid hours house spent loans surges rate) [(0, .ref h0), (1, .int p1), (2, .int p2), (3, .int num), (4, .int v4_18)] 11 [] := by
    intro F
    induction F with
    | zero => intro v4_18 w19 w20 w21 hF; exact none_some hF
    | succ F ih11 =>
      intro v4_18 w19 w20 w21 hF
      rw [f_X0_purchase_L11] at hF
      refine kw_iload X dX0_purchase_11 4 rfl ?_
      refine kw_iload_n X dX0_purchase_13 rfl 2 rfl ?_
      refine kw_icmp_ge X 31 dX0_purchase_14 (by decide) (fun q22 => ?_) (fun q22 => ?_)
      · replace hF := (if_neg q22).symm.trans hF
        refine kw_loc (lo' := [(0, .ref h0), (2, .int p2), (3, .int num)]) [0, 2, 3] rfl ?_
        obtain ⟨rfl, rfl, rfl⟩ := si3 hF
        exact J
      · replace hF := (if_pos q22).symm.trans hF
        refine kw_aload_n X dX0_purchase_17 rfl 0 rfl ?_
        refine kw_get X inX0 0 rfl rfl 0 (by decide) rfl gw_95 rfl dX0_purchase_18 ?_
        refine kw_iload_n X dX0_purchase_21 rfl 1 rfl ?_
        obtain ⟨m23, m24, b25, hx25, hF⟩ := pl3_ex hF
        refine kw_vev X (As := [.int p1]) (st := []) (ws' := wX0 cI h0 h1 h2 h3 h4 h5 h6 h7 h8 h9 h10 h11 h12 h13 h14 h15 h16 h17 h18 h19 m23 we le m24 b25 rooms purses showers homes paid hours house spent loans surges rate) E (c_X5_addNew l D cI cC cR h1 h2 h3 h4 h5 h6 h7 h8 h9 w20 we le w21 w19 p1 m23 m24 b25 hx25) vl_X0_96 yv_X5_addNew ⟨Nat.le_of_ble_eq_true rfl, Nat.le_of_ble_eq_true rfl⟩ ⟨rfl, rfl⟩ ⟨Nat.zero_le _, Nat.zero_le _⟩ 1 rfl rfl [1, 2, 3, 4, 5, 6, 7, 8, 9] rfl rfl rfl rfl (Nat.le_of_ble_eq_true rfl) dX0_purchase_22 [h1, h2, h3, h4, h5, h6, h7, h8, h9] rfl rfl rfl ?_
        refine kw_iinc (lo' := [(0, .ref h0), (1, .int p1), (2, .int p2), (3, .int num), (4, .int (v4_18 + 1))]) X dX0_purchase_25 4 rfl (congrArg (fun w => v4_18 + w) ci_1) (by decide) [1, 2, 3, 4, 0] rfl ?_
        refine kw_goto X 11 dX0_purchase_28 (by decide) ?_
        exact ih11 _ _ _ _ hF
  exact hL11 Z _ _ _ _ hx
-- X0_settingError
def f_X0_settingError (ta : Nat → Int32) (p1 : Int32) (p2 : Int32) : Int32 :=
  (if p1 = 8 then (if (f_X6_outside p2 0 5) = 0 then 0 else (-1)) else (if (f_X6_outside p1 0 7) = 0 then (if (f_X6_outside p2 1 20) = 0 then (if p2 < (f_X5_numberAt ta p1) then (-2) else 0) else (-1)) else (-1)))
abbrev rm_X0_settingError : Room := { frames := 2, cells := 0, slots := 0, locals := 42 }
set_option maxHeartbeats 4000000 in
set_option maxRecDepth 100000 in
theorem c_X0_settingError (l : Launch) (D : va_G) (cI cC cR : ClassId) (h0 h1 h2 h3 h4 h5 h6 h7 h8 h9 h10 h11 h12 h13 h14 h15 h16 h17 h18 h19 : Nat) (sp : Nat → Int32) (we : Nat → Int32) (le : Nat → Int32) (ta : Nat → Int32) (num : Int32) (rooms : Nat → Int32) (purses : Nat → Int32) (showers : Nat → Int32) (homes : Nat → Int32) (paid : Nat → Int32) (hours : Int32) (house : Int32) (spent : Int32) (loans : Int32) (surges : Int32) (rate : Int32) (p1 : Int32) (p2 : Int32) (r : Int32) (hF : f_X0_settingError ta p1 p2 = r) : MPi l yX0_settingError cX0_settingError 3 (some .int) rm_X0_settingError D (TY cI cC cR) [.ref h0, .int p1, .int p2] (wX0 cI h0 h1 h2 h3 h4 h5 h6 h7 h8 h9 h10 h11 h12 h13 h14 h15 h16 h17 h18 h19 sp we le ta num rooms purses showers homes paid hours house spent loans surges rate) (.int r) := by
  refine me_p pn_X0 (Nat.le_of_ble_eq_true rfl) rfl (fun Γ X hret => ?_)
  unfold f_X0_settingError at hF
  refine kw_iload_n X dX0_settingError_0 rfl 1 rfl ?_
  refine kw_bipush X dX0_settingError_1 cb_8 ?_
  refine kw_icmp_ne X 21 dX0_settingError_3 (by decide) (fun q1 => ?_) (fun q1 => ?_)
  · replace hF := (if_neg q1).symm.trans hF
    refine kw_iload_n X dX0_settingError_21 rfl 1 rfl ?_
    refine kw_iconst X dX0_settingError_22 ci_0 ?_
    refine kw_bipush X dX0_settingError_23 cb_7 ?_
    refine kw_snp X (r := .int (f_X6_outside p1 0 7)) (As := [.int p1, .int 0, .int 7]) (st := []) (c_X6_outside l D cI cC cR  p1 0 7 (f_X6_outside p1 0 7) rfl) nw_27 vn_X0_82 yv_X6_outside ⟨Nat.le_of_ble_eq_true rfl, Nat.le_of_ble_eq_true rfl⟩ ⟨rfl, rfl⟩ ⟨Nat.zero_le _, Nat.zero_le _⟩ [] rfl rfl rfl rfl (Nat.le_of_ble_eq_true rfl) dX0_settingError_25 ?_
    refine kw_if_ne X 41 dX0_settingError_28 (by decide) (fun q2 => ?_) (fun q2 => ?_)
    · replace hF := (if_neg q2).symm.trans hF
      refine kw_iconst X dX0_settingError_41 ci_m1 ?_
      obtain rfl := ti1 hF
      exact hret _ _ _ (vp_nar_int _) dX0_settingError_42
    · replace hF := (if_pos q2).symm.trans hF
      refine kw_iload_n X dX0_settingError_31 rfl 2 rfl ?_
      refine kw_iconst X dX0_settingError_32 ci_1 ?_
      refine kw_bipush X dX0_settingError_33 cb_20 ?_
      refine kw_snp X (r := .int (f_X6_outside p2 1 20)) (As := [.int p2, .int 1, .int 20]) (st := []) (c_X6_outside l D cI cC cR  p2 1 20 (f_X6_outside p2 1 20) rfl) nw_27 vn_X0_82 yv_X6_outside ⟨Nat.le_of_ble_eq_true rfl, Nat.le_of_ble_eq_true rfl⟩ ⟨rfl, rfl⟩ ⟨Nat.zero_le _, Nat.zero_le _⟩ [] rfl rfl rfl rfl (Nat.le_of_ble_eq_true rfl) dX0_settingError_35 ?_
      refine kw_if_eq X 43 dX0_settingError_38 (by decide) (fun q3 => ?_) (fun q3 => ?_)
      · replace hF := (if_pos q3).symm.trans hF
        refine kw_aload_n X dX0_settingError_43 rfl 0 rfl ?_
        refine kw_get X inX0 0 rfl rfl 0 (by decide) rfl gw_95 rfl dX0_settingError_44 ?_
        refine kw_iload_n X dX0_settingError_47 rfl 1 rfl ?_
        refine kw_vp X (r := .int (f_X5_numberAt ta p1)) (As := [.int p1]) (st := []) (c_X5_numberAt l D cI cC cR h1 h2 h3 h4 h5 h6 h7 h8 h9 sp we le ta num p1 (f_X5_numberAt ta p1) rfl) vl_X0_75 yv_X5_numberAt ⟨Nat.le_of_ble_eq_true rfl, Nat.le_of_ble_eq_true rfl⟩ ⟨rfl, rfl⟩ ⟨Nat.zero_le _, Nat.zero_le _⟩ 1 rfl rfl [1, 2, 3, 4, 5, 6, 7, 8, 9] rfl rfl rfl rfl (Nat.le_of_ble_eq_true rfl) dX0_settingError_48 ?_
        refine kw_iload_n X dX0_settingError_51 rfl 2 rfl ?_
        refine kw_icmp_le X 60 dX0_settingError_52 (by decide) (fun q4 => ?_) (fun q4 => ?_)
        · replace hF := (if_neg q4).symm.trans hF
          refine kw_iconst X dX0_settingError_60 ci_0 ?_
          obtain rfl := ti1 hF
          exact hret _ _ _ (vp_nar_int _) dX0_settingError_61
        · replace hF := (if_pos q4).symm.trans hF
          refine kw_bipush X dX0_settingError_55 cb_m2 ?_
          refine kw_goto X 61 dX0_settingError_57 (by decide) ?_
          obtain rfl := ti1 hF
          exact hret _ _ _ (vp_nar_int _) dX0_settingError_61
      · replace hF := (if_neg q3).symm.trans hF
        refine kw_iconst X dX0_settingError_41 ci_m1 ?_
        obtain rfl := ti1 hF
        exact hret _ _ _ (vp_nar_int _) dX0_settingError_42
  · replace hF := (if_pos q1).symm.trans hF
    refine kw_iload_n X dX0_settingError_6 rfl 2 rfl ?_
    refine kw_iconst X dX0_settingError_7 ci_0 ?_
    refine kw_iconst X dX0_settingError_8 ci_5 ?_
    refine kw_snp X (r := .int (f_X6_outside p2 0 5)) (As := [.int p2, .int 0, .int 5]) (st := []) (c_X6_outside l D cI cC cR  p2 0 5 (f_X6_outside p2 0 5) rfl) nw_27 vn_X0_82 yv_X6_outside ⟨Nat.le_of_ble_eq_true rfl, Nat.le_of_ble_eq_true rfl⟩ ⟨rfl, rfl⟩ ⟨Nat.zero_le _, Nat.zero_le _⟩ [] rfl rfl rfl rfl (Nat.le_of_ble_eq_true rfl) dX0_settingError_9 ?_
    refine kw_if_eq X 19 dX0_settingError_12 (by decide) (fun q5 => ?_) (fun q5 => ?_)
    · replace hF := (if_pos q5).symm.trans hF
      refine kw_iconst X dX0_settingError_19 ci_0 ?_
      obtain rfl := ti1 hF
      exact hret _ _ _ (vp_nar_int _) dX0_settingError_20
    · replace hF := (if_neg q5).symm.trans hF
      refine kw_iconst X dX0_settingError_15 ci_m1 ?_
      refine kw_goto X 20 dX0_settingError_16 (by decide) ?_
      obtain rfl := ti1 hF
      exact hret _ _ _ (vp_nar_int _) dX0_settingError_20
-- X0_change
def f_X0_change (rooms : Nat → Int32) (rate : Int32) (p1 : Int32) (p2 : Int32) : Int32 × (Nat → Int32) × Int32 :=
  (pl3 (if p1 = 8 then (rate, p2, rooms) else ((f_X2_at 8 rooms p1), rate, (f_X2_put 8 rooms p1 p2))) (fun (v3_2 : Int32) (w3 : Int32) (w4 : Nat → Int32) => (v3_2, w4, w3)))
abbrev rm_X0_change : Room := { frames := 1, cells := 0, slots := 0, locals := 22 }
set_option maxHeartbeats 4000000 in
set_option maxRecDepth 100000 in
theorem c_X0_change (l : Launch) (D : va_G) (cI cC cR : ClassId) (h0 h1 h2 h3 h4 h5 h6 h7 h8 h9 h10 h11 h12 h13 h14 h15 h16 h17 h18 h19 : Nat) (sp : Nat → Int32) (we : Nat → Int32) (le : Nat → Int32) (ta : Nat → Int32) (num : Int32) (rooms : Nat → Int32) (purses : Nat → Int32) (showers : Nat → Int32) (homes : Nat → Int32) (paid : Nat → Int32) (hours : Int32) (house : Int32) (spent : Int32) (loans : Int32) (surges : Int32) (rate : Int32) (p1 : Int32) (p2 : Int32) (r : Int32) (rooms' : Nat → Int32) (rate' : Int32) (hF : f_X0_change rooms rate p1 p2 = (r, rooms', rate')) : MEq l yX0_change cX0_change 4 (some .int) rm_X0_change D (TY cI cC cR) [.ref h0, .int p1, .int p2] (wX0 cI h0 h1 h2 h3 h4 h5 h6 h7 h8 h9 h10 h11 h12 h13 h14 h15 h16 h17 h18 h19 sp we le ta num rooms purses showers homes paid hours house spent loans surges rate) (wX0 cI h0 h1 h2 h3 h4 h5 h6 h7 h8 h9 h10 h11 h12 h13 h14 h15 h16 h17 h18 h19 sp we le ta num rooms' purses showers homes paid hours house spent loans surges rate') (some (.int r)) := by
  refine me_e pn_X0 (Nat.le_of_ble_eq_true rfl) rfl (fun Γ X E hret => ?_)
  unfold f_X0_change at hF
  refine kw_iload_n X dX0_change_0 rfl 1 rfl ?_
  refine kw_bipush X dX0_change_1 cb_8 ?_
  obtain ⟨v3_2, w3, w4, hx5, hF⟩ := pl3_ex hF
  have J : KW Γ 0 0 (wX0 cI h0 h1 h2 h3 h4 h5 h6 h7 h8 h9 h10 h11 h12 h13 h14 h15 h16 h17 h18 h19 sp we le ta num w4 purses showers homes paid hours house spent loans surges w3) [(3, .int v3_2)] 37 [] := by
    refine kw_iload_n X dX0_change_37 rfl 0 rfl ?_
    obtain ⟨rfl, rfl, rfl⟩ := ti3 hF
    exact hret _ _ (vp_nar_int _) dX0_change_38
  replace hF := hx5
  refine kw_icmp_ne X 19 dX0_change_3 (by decide) (fun q1 => ?_) (fun q1 => ?_)
  · replace hF := (if_neg q1).symm.trans hF
    refine kw_aload_n X dX0_change_19 rfl 0 rfl ?_
    refine kw_get X inX0 0 rfl rfl 1 (by decide) rfl gw_97 rfl dX0_change_20 ?_
    refine kw_iload_n X dX0_change_23 rfl 1 rfl ?_
    refine kw_vp X (r := .int (f_X2_at 8 rooms p1)) (As := [.int p1]) (st := []) (c_X2_at l D cI cC cR h10 h11 8 (by decide) rooms p1 (f_X2_at 8 rooms p1) rfl) vl_X0_72 yv_X2_at ⟨Nat.le_of_ble_eq_true rfl, Nat.le_of_ble_eq_true rfl⟩ ⟨rfl, rfl⟩ ⟨Nat.zero_le _, Nat.zero_le _⟩ 10 rfl rfl [10, 11] rfl rfl rfl rfl (Nat.le_of_ble_eq_true rfl) dX0_change_24 ?_
    refine kw_istore_n (lo' := [(0, .ref h0), (1, .int p1), (2, .int p2), (3, .int (f_X2_at 8 rooms p1))]) X dX0_change_27 rfl (by decide) [1, 2, 3, 0] rfl ?_
    refine kw_aload_n X dX0_change_28 rfl 0 rfl ?_
    refine kw_get X inX0 0 rfl rfl 1 (by decide) rfl gw_97 rfl dX0_change_29 ?_
    refine kw_iload_n X dX0_change_32 rfl 1 rfl ?_
    refine kw_iload_n X dX0_change_33 rfl 2 rfl ?_
    refine kw_vev X (As := [.int p1, .int p2]) (st := []) (ws' := wX0 cI h0 h1 h2 h3 h4 h5 h6 h7 h8 h9 h10 h11 h12 h13 h14 h15 h16 h17 h18 h19 sp we le ta num (f_X2_put 8 rooms p1 p2) purses showers homes paid hours house spent loans surges rate) E (c_X2_put l D cI cC cR h10 h11 8 (by decide) rooms p1 p2 (f_X2_put 8 rooms p1 p2) rfl) vl_X0_46 yv_X2_put ⟨Nat.le_of_ble_eq_true rfl, Nat.le_of_ble_eq_true rfl⟩ ⟨rfl, rfl⟩ ⟨Nat.zero_le _, Nat.zero_le _⟩ 10 rfl rfl [10, 11] rfl rfl rfl rfl (Nat.le_of_ble_eq_true rfl) dX0_change_34 [h10, h11] rfl rfl rfl ?_
    refine kw_loc (lo' := [(3, .int (f_X2_at 8 rooms p1))]) [3] rfl ?_
    obtain ⟨rfl, rfl, rfl⟩ := ti3 hF
    exact J
  · replace hF := (if_pos q1).symm.trans hF
    refine kw_aload_n X dX0_change_6 rfl 0 rfl ?_
    refine kw_get X inX0 0 rfl rfl 11 (by decide) rfl gw_117 rfl dX0_change_7 ?_
    refine kw_istore_n (lo' := [(0, .ref h0), (1, .int p1), (2, .int p2), (3, .int rate)]) X dX0_change_10 rfl (by decide) [1, 2, 3, 0] rfl ?_
    refine kw_aload_n X dX0_change_11 rfl 0 rfl ?_
    refine kw_iload_n X dX0_change_12 rfl 2 rfl ?_
    refine kw_put X E inX0 tyX0 tyX0_ok nmX0 0 rfl rfl 11 (by decide) rfl gw_117 rfl pfd_I (vp_nar_int _) rfl (Nat.le_of_ble_eq_true rfl) (ws' := wX0 cI h0 h1 h2 h3 h4 h5 h6 h7 h8 h9 h10 h11 h12 h13 h14 h15 h16 h17 h18 h19 sp we le ta num rooms purses showers homes paid hours house spent loans surges p2) rfl dX0_change_13 ?_
    refine kw_goto X 37 dX0_change_16 (by decide) ?_
    refine kw_loc (lo' := [(3, .int rate)]) [3] rfl ?_
    obtain ⟨rfl, rfl, rfl⟩ := ti3 hF
    exact J
-- X0_wouldBorrow
def f_X0_wouldBorrow (ta : Nat → Int32) (purses : Nat → Int32) (p1 : Int32) : Int32 :=
  (if (f_X2_at 12 purses p1) < 10 then 0 else (if (f_X5_numberAt ta (8 + p1)) = 0 then 1 else 0))
abbrev rm_X0_wouldBorrow : Room := { frames := 2, cells := 0, slots := 0, locals := 42 }
set_option maxHeartbeats 4000000 in
set_option maxRecDepth 100000 in
theorem c_X0_wouldBorrow (l : Launch) (D : va_G) (cI cC cR : ClassId) (h0 h1 h2 h3 h4 h5 h6 h7 h8 h9 h10 h11 h12 h13 h14 h15 h16 h17 h18 h19 : Nat) (sp : Nat → Int32) (we : Nat → Int32) (le : Nat → Int32) (ta : Nat → Int32) (num : Int32) (rooms : Nat → Int32) (purses : Nat → Int32) (showers : Nat → Int32) (homes : Nat → Int32) (paid : Nat → Int32) (hours : Int32) (house : Int32) (spent : Int32) (loans : Int32) (surges : Int32) (rate : Int32) (p1 : Int32) (r : Int32) (hF : f_X0_wouldBorrow ta purses p1 = r) : MPi l yX0_wouldBorrow cX0_wouldBorrow 2 (some .boolean) rm_X0_wouldBorrow D (TY cI cC cR) [.ref h0, .int p1] (wX0 cI h0 h1 h2 h3 h4 h5 h6 h7 h8 h9 h10 h11 h12 h13 h14 h15 h16 h17 h18 h19 sp we le ta num rooms purses showers homes paid hours house spent loans surges rate) (.int r) := by
  refine me_p pn_X0 (Nat.le_of_ble_eq_true rfl) rfl (fun Γ X hret => ?_)
  unfold f_X0_wouldBorrow at hF
  refine kw_aload_n X dX0_wouldBorrow_0 rfl 0 rfl ?_
  refine kw_get X inX0 0 rfl rfl 2 (by decide) rfl gw_99 rfl dX0_wouldBorrow_1 ?_
  refine kw_iload_n X dX0_wouldBorrow_4 rfl 1 rfl ?_
  refine kw_vp X (r := .int (f_X2_at 12 purses p1)) (As := [.int p1]) (st := []) (c_X2_at l D cI cC cR h12 h13 12 (by decide) purses p1 (f_X2_at 12 purses p1) rfl) vl_X0_72 yv_X2_at ⟨Nat.le_of_ble_eq_true rfl, Nat.le_of_ble_eq_true rfl⟩ ⟨rfl, rfl⟩ ⟨Nat.zero_le _, Nat.zero_le _⟩ 12 rfl rfl [12, 13] rfl rfl rfl rfl (Nat.le_of_ble_eq_true rfl) dX0_wouldBorrow_5 ?_
  refine kw_bipush X dX0_wouldBorrow_8 cb_10 ?_
  refine kw_icmp_lt X 31 dX0_wouldBorrow_10 (by decide) (fun q1 => ?_) (fun q1 => ?_)
  · replace hF := (if_pos q1).symm.trans hF
    refine kw_iconst X dX0_wouldBorrow_31 ci_0 ?_
    obtain rfl := ti1 hF
    exact hret _ _ _ rfl dX0_wouldBorrow_32
  · replace hF := (if_neg q1).symm.trans hF
    refine kw_aload_n X dX0_wouldBorrow_13 rfl 0 rfl ?_
    refine kw_get X inX0 0 rfl rfl 0 (by decide) rfl gw_95 rfl dX0_wouldBorrow_14 ?_
    refine kw_bipush X dX0_wouldBorrow_17 cb_8 ?_
    refine kw_iload_n X dX0_wouldBorrow_19 rfl 1 rfl ?_
    refine kw_iadd X dX0_wouldBorrow_20 ?_
    refine kw_vp X (r := .int (f_X5_numberAt ta (8 + p1))) (As := [.int (8 + p1)]) (st := []) (c_X5_numberAt l D cI cC cR h1 h2 h3 h4 h5 h6 h7 h8 h9 sp we le ta num (8 + p1) (f_X5_numberAt ta (8 + p1)) rfl) vl_X0_75 yv_X5_numberAt ⟨Nat.le_of_ble_eq_true rfl, Nat.le_of_ble_eq_true rfl⟩ ⟨rfl, rfl⟩ ⟨Nat.zero_le _, Nat.zero_le _⟩ 1 rfl rfl [1, 2, 3, 4, 5, 6, 7, 8, 9] rfl rfl rfl rfl (Nat.le_of_ble_eq_true rfl) dX0_wouldBorrow_21 ?_
    refine kw_if_ne X 31 dX0_wouldBorrow_24 (by decide) (fun q2 => ?_) (fun q2 => ?_)
    · replace hF := (if_neg q2).symm.trans hF
      refine kw_iconst X dX0_wouldBorrow_31 ci_0 ?_
      obtain rfl := ti1 hF
      exact hret _ _ _ rfl dX0_wouldBorrow_32
    · replace hF := (if_pos q2).symm.trans hF
      refine kw_iconst X dX0_wouldBorrow_27 ci_1 ?_
      refine kw_goto X 32 dX0_wouldBorrow_28 (by decide) ?_
      obtain rfl := ti1 hF
      exact hret _ _ _ rfl dX0_wouldBorrow_32
-- X0_lendingError
def f_X0_lendingError (Z : Nat) (sp : Nat → Int32) (we : Nat → Int32) (ta : Nat → Int32) (num : Int32) (purses : Nat → Int32) (p1 : Int32) (p2 : Int32) : Option (Int32) :=
  (if (f_X6_outside p1 0 11) = 0 then (if (f_X6_outside p2 0 7) = 0 then (ob1 (if (f_X0_wouldBorrow ta purses p1) = 0 then (some 0) else (ob1 (f_X5_bestAt Z sp we num p2) (fun (b10 : Int32) => (if b10 = (-9) then (some 0) else (some 1))))) (fun (x7 : Int32) => (if x7 = 0 then (some (-2)) else (some 0)))) else (some (-1))) else (some (-1)))
abbrev rm_X0_lendingError : Room := { frames := 3, cells := 0, slots := 0, locals := 68 }
set_option maxHeartbeats 4000000 in
set_option maxRecDepth 100000 in
theorem c_X0_lendingError (l : Launch) (D : va_G) (cI cC cR : ClassId) (h0 h1 h2 h3 h4 h5 h6 h7 h8 h9 h10 h11 h12 h13 h14 h15 h16 h17 h18 h19 : Nat) (sp : Nat → Int32) (we : Nat → Int32) (le : Nat → Int32) (ta : Nat → Int32) (num : Int32) (rooms : Nat → Int32) (purses : Nat → Int32) (showers : Nat → Int32) (homes : Nat → Int32) (paid : Nat → Int32) (hours : Int32) (house : Int32) (spent : Int32) (loans : Int32) (surges : Int32) (rate : Int32) (p1 : Int32) (p2 : Int32) (Z : Nat) (r : Int32) (hF : f_X0_lendingError Z sp we ta num purses p1 p2 = some r) : MPi l yX0_lendingError cX0_lendingError 4 (some .int) rm_X0_lendingError D (TY cI cC cR) [.ref h0, .int p1, .int p2] (wX0 cI h0 h1 h2 h3 h4 h5 h6 h7 h8 h9 h10 h11 h12 h13 h14 h15 h16 h17 h18 h19 sp we le ta num rooms purses showers homes paid hours house spent loans surges rate) (.int r) := by
  refine me_p pn_X0 (Nat.le_of_ble_eq_true rfl) rfl (fun Γ X hret => ?_)
  unfold f_X0_lendingError at hF
  refine kw_iload_n X dX0_lendingError_0 rfl 1 rfl ?_
  refine kw_iconst X dX0_lendingError_1 ci_0 ?_
  refine kw_bipush X dX0_lendingError_2 cb_11 ?_
  refine kw_snp X (r := .int (f_X6_outside p1 0 11)) (As := [.int p1, .int 0, .int 11]) (st := []) (c_X6_outside l D cI cC cR  p1 0 11 (f_X6_outside p1 0 11) rfl) nw_27 vn_X0_82 yv_X6_outside ⟨Nat.le_of_ble_eq_true rfl, Nat.le_of_ble_eq_true rfl⟩ ⟨rfl, rfl⟩ ⟨Nat.zero_le _, Nat.zero_le _⟩ [] rfl rfl rfl rfl (Nat.le_of_ble_eq_true rfl) dX0_lendingError_4 ?_
  refine kw_if_ne X 20 dX0_lendingError_7 (by decide) (fun q1 => ?_) (fun q1 => ?_)
  · replace hF := (if_neg q1).symm.trans hF
    refine kw_iconst X dX0_lendingError_20 ci_m1 ?_
    obtain rfl := si1 hF
    exact hret _ _ _ (vp_nar_int _) dX0_lendingError_21
  · replace hF := (if_pos q1).symm.trans hF
    refine kw_iload_n X dX0_lendingError_10 rfl 2 rfl ?_
    refine kw_iconst X dX0_lendingError_11 ci_0 ?_
    refine kw_bipush X dX0_lendingError_12 cb_7 ?_
    refine kw_snp X (r := .int (f_X6_outside p2 0 7)) (As := [.int p2, .int 0, .int 7]) (st := []) (c_X6_outside l D cI cC cR  p2 0 7 (f_X6_outside p2 0 7) rfl) nw_27 vn_X0_82 yv_X6_outside ⟨Nat.le_of_ble_eq_true rfl, Nat.le_of_ble_eq_true rfl⟩ ⟨rfl, rfl⟩ ⟨Nat.zero_le _, Nat.zero_le _⟩ [] rfl rfl rfl rfl (Nat.le_of_ble_eq_true rfl) dX0_lendingError_14 ?_
    refine kw_if_eq X 22 dX0_lendingError_17 (by decide) (fun q2 => ?_) (fun q2 => ?_)
    · replace hF := (if_pos q2).symm.trans hF
      refine kw_aload_n X dX0_lendingError_22 rfl 0 rfl ?_
      refine kw_iload_n X dX0_lendingError_23 rfl 1 rfl ?_
      refine kw_ap X (r := .int (f_X0_wouldBorrow ta purses p1)) (As := [.int p1]) (st := []) (c_X0_wouldBorrow l D cI cC cR h0 h1 h2 h3 h4 h5 h6 h7 h8 h9 h10 h11 h12 h13 h14 h15 h16 h17 h18 h19 sp we le ta num rooms purses showers homes paid hours house spent loans surges rate p1 (f_X0_wouldBorrow ta purses p1) rfl) vl_X0_103 yv_X0_wouldBorrow ⟨Nat.le_of_ble_eq_true rfl, Nat.le_of_ble_eq_true rfl⟩ ⟨rfl, rfl⟩ ⟨Nat.zero_le _, Nat.zero_le _⟩ 0 rfl rfl rfl rfl (Nat.le_of_ble_eq_true rfl) dX0_lendingError_24 ?_
      obtain ⟨x7, hx8, hF⟩ := ob1_ex hF
      have J : KW Γ 0 0 (wX0 cI h0 h1 h2 h3 h4 h5 h6 h7 h8 h9 h10 h11 h12 h13 h14 h15 h16 h17 h18 h19 sp we le ta num rooms purses showers homes paid hours house spent loans surges rate) [] 48 [.int x7] := by
        refine kw_istore_n (lo' := [(3, .int x7)]) X dX0_lendingError_48 rfl (by decide) [0] rfl ?_
        refine kw_iload_n X dX0_lendingError_49 rfl 0 rfl ?_
        refine kw_if_eq X 57 dX0_lendingError_50 (by decide) (fun q9 => ?_) (fun q9 => ?_)
        · replace hF := (if_pos q9).symm.trans hF
          refine kw_bipush X dX0_lendingError_57 cb_m2 ?_
          obtain rfl := si1 hF
          exact hret _ _ _ (vp_nar_int _) dX0_lendingError_59
        · replace hF := (if_neg q9).symm.trans hF
          refine kw_iconst X dX0_lendingError_53 ci_0 ?_
          refine kw_goto X 59 dX0_lendingError_54 (by decide) ?_
          obtain rfl := si1 hF
          exact hret _ _ _ (vp_nar_int _) dX0_lendingError_59
      replace hF := hx8
      refine kw_if_eq X 47 dX0_lendingError_27 (by decide) (fun q3 => ?_) (fun q3 => ?_)
      · replace hF := (if_pos q3).symm.trans hF
        refine kw_iconst X dX0_lendingError_47 ci_0 ?_
        refine kw_loc (lo' := []) [] rfl ?_
        obtain rfl := si1 hF
        exact J
      · replace hF := (if_neg q3).symm.trans hF
        refine kw_aload_n X dX0_lendingError_30 rfl 0 rfl ?_
        refine kw_get X inX0 0 rfl rfl 0 (by decide) rfl gw_95 rfl dX0_lendingError_31 ?_
        refine kw_iload_n X dX0_lendingError_34 rfl 2 rfl ?_
        obtain ⟨b10, hx10, hF⟩ := ob1_ex hF
        refine kw_vp X (r := .int b10) (As := [.int p2]) (st := []) (c_X5_bestAt l D cI cC cR h1 h2 h3 h4 h5 h6 h7 h8 h9 sp we le ta num p2 Z b10 hx10) vl_X0_107 yv_X5_bestAt ⟨Nat.le_of_ble_eq_true rfl, Nat.le_of_ble_eq_true rfl⟩ ⟨rfl, rfl⟩ ⟨Nat.zero_le _, Nat.zero_le _⟩ 1 rfl rfl [1, 2, 3, 4, 5, 6, 7, 8, 9] rfl rfl rfl rfl (Nat.le_of_ble_eq_true rfl) dX0_lendingError_35 ?_
        refine kw_bipush X dX0_lendingError_38 cb_m9 ?_
        refine kw_icmp_eq X 47 dX0_lendingError_40 (by decide) (fun q11 => ?_) (fun q11 => ?_)
        · replace hF := (if_pos q11).symm.trans hF
          refine kw_iconst X dX0_lendingError_47 ci_0 ?_
          refine kw_loc (lo' := []) [] rfl ?_
          obtain rfl := si1 hF
          exact J
        · replace hF := (if_neg q11).symm.trans hF
          refine kw_iconst X dX0_lendingError_43 ci_1 ?_
          refine kw_goto X 48 dX0_lendingError_44 (by decide) ?_
          refine kw_loc (lo' := []) [] rfl ?_
          obtain rfl := si1 hF
          exact J
    · replace hF := (if_neg q2).symm.trans hF
      refine kw_iconst X dX0_lendingError_20 ci_m1 ?_
      obtain rfl := si1 hF
      exact hret _ _ _ (vp_nar_int _) dX0_lendingError_21
-- X0_handOut
def f_X0_handOut (sp : Nat → Int32) (le : Nat → Int32) (ta : Nat → Int32) (purses : Nat → Int32) (house : Int32) (loans : Int32) (p1 : Int32) (p2 : Int32) : (Nat → Int32) × (Nat → Int32) × (Nat → Int32) × (Nat → Int32) × Int32 × Int32 :=
  (pl2 (f_X5_move sp ta p2 (8 + p1)) (fun (m1 : Nat → Int32) (m2 : Nat → Int32) => (m1, (f_X2_add 60 le p2 1), m2, (f_X2_add 12 purses p1 (-10)), (house + 10), (loans + 1))))
abbrev rm_X0_handOut : Room := { frames := 2, cells := 0, slots := 0, locals := 44 }
set_option maxHeartbeats 4000000 in
set_option maxRecDepth 100000 in
theorem c_X0_handOut (l : Launch) (D : va_G) (cI cC cR : ClassId) (h0 h1 h2 h3 h4 h5 h6 h7 h8 h9 h10 h11 h12 h13 h14 h15 h16 h17 h18 h19 : Nat) (sp : Nat → Int32) (we : Nat → Int32) (le : Nat → Int32) (ta : Nat → Int32) (num : Int32) (rooms : Nat → Int32) (purses : Nat → Int32) (showers : Nat → Int32) (homes : Nat → Int32) (paid : Nat → Int32) (hours : Int32) (house : Int32) (spent : Int32) (loans : Int32) (surges : Int32) (rate : Int32) (p1 : Int32) (p2 : Int32) (sp' : Nat → Int32) (le' : Nat → Int32) (ta' : Nat → Int32) (purses' : Nat → Int32) (house' : Int32) (loans' : Int32) (hF : f_X0_handOut sp le ta purses house loans p1 p2 = (sp', le', ta', purses', house', loans')) : MEq l yX0_handOut cX0_handOut 3 none rm_X0_handOut D (TY cI cC cR) [.ref h0, .int p1, .int p2] (wX0 cI h0 h1 h2 h3 h4 h5 h6 h7 h8 h9 h10 h11 h12 h13 h14 h15 h16 h17 h18 h19 sp we le ta num rooms purses showers homes paid hours house spent loans surges rate) (wX0 cI h0 h1 h2 h3 h4 h5 h6 h7 h8 h9 h10 h11 h12 h13 h14 h15 h16 h17 h18 h19 sp' we le' ta' num rooms purses' showers homes paid hours house' spent loans' surges rate) none := by
  refine me_v pn_X0 (Nat.le_of_ble_eq_true rfl) rfl (fun Γ X E hret => ?_)
  unfold f_X0_handOut at hF
  refine kw_aload_n X dX0_handOut_0 rfl 0 rfl ?_
  refine kw_get X inX0 0 rfl rfl 0 (by decide) rfl gw_95 rfl dX0_handOut_1 ?_
  refine kw_iload_n X dX0_handOut_4 rfl 2 rfl ?_
  refine kw_bipush X dX0_handOut_5 cb_8 ?_
  refine kw_iload_n X dX0_handOut_7 rfl 1 rfl ?_
  refine kw_iadd X dX0_handOut_8 ?_
  obtain ⟨m1, m2, hx2, hF⟩ := pl2_ex hF
  refine kw_vev X (As := [.int p2, .int (8 + p1)]) (st := []) (ws' := wX0 cI h0 h1 h2 h3 h4 h5 h6 h7 h8 h9 h10 h11 h12 h13 h14 h15 h16 h17 h18 h19 m1 we le m2 num rooms purses showers homes paid hours house spent loans surges rate) E (c_X5_move l D cI cC cR h1 h2 h3 h4 h5 h6 h7 h8 h9 sp we le ta num p2 (8 + p1) m1 m2 hx2) vl_X0_113 yv_X5_move ⟨Nat.le_of_ble_eq_true rfl, Nat.le_of_ble_eq_true rfl⟩ ⟨rfl, rfl⟩ ⟨Nat.zero_le _, Nat.zero_le _⟩ 1 rfl rfl [1, 2, 3, 4, 5, 6, 7, 8, 9] rfl rfl rfl rfl (Nat.le_of_ble_eq_true rfl) dX0_handOut_9 [h1, h2, h3, h4, h5, h6, h7, h8, h9] rfl rfl rfl ?_
  refine kw_aload_n X dX0_handOut_12 rfl 0 rfl ?_
  refine kw_get X inX0 0 rfl rfl 0 (by decide) rfl gw_95 rfl dX0_handOut_13 ?_
  refine kw_getN X inX5 1 rfl rfl 2 (by decide) rfl nw_6 rfl dX0_handOut_16 ?_
  refine kw_iload_n X dX0_handOut_19 rfl 2 rfl ?_
  refine kw_iconst X dX0_handOut_20 ci_1 ?_
  refine kw_vev X (As := [.int p2, .int 1]) (st := []) (ws' := wX0 cI h0 h1 h2 h3 h4 h5 h6 h7 h8 h9 h10 h11 h12 h13 h14 h15 h16 h17 h18 h19 m1 we (f_X2_add 60 le p2 1) m2 num rooms purses showers homes paid hours house spent loans surges rate) E (c_X2_add l D cI cC cR h6 h7 60 (by decide) le p2 1 (f_X2_add 60 le p2 1) rfl) vl_X0_119 yv_X2_add ⟨Nat.le_of_ble_eq_true rfl, Nat.le_of_ble_eq_true rfl⟩ ⟨rfl, rfl⟩ ⟨Nat.zero_le _, Nat.zero_le _⟩ 6 rfl rfl [6, 7] rfl rfl rfl rfl (Nat.le_of_ble_eq_true rfl) dX0_handOut_21 [h6, h7] rfl rfl rfl ?_
  refine kw_aload_n X dX0_handOut_24 rfl 0 rfl ?_
  refine kw_get X inX0 0 rfl rfl 2 (by decide) rfl gw_99 rfl dX0_handOut_25 ?_
  refine kw_iload_n X dX0_handOut_28 rfl 1 rfl ?_
  refine kw_bipush X dX0_handOut_29 cb_m10 ?_
  refine kw_vev X (As := [.int p1, .int (-10)]) (st := []) (ws' := wX0 cI h0 h1 h2 h3 h4 h5 h6 h7 h8 h9 h10 h11 h12 h13 h14 h15 h16 h17 h18 h19 m1 we (f_X2_add 60 le p2 1) m2 num rooms (f_X2_add 12 purses p1 (-10)) showers homes paid hours house spent loans surges rate) E (c_X2_add l D cI cC cR h12 h13 12 (by decide) purses p1 (-10) (f_X2_add 12 purses p1 (-10)) rfl) vl_X0_119 yv_X2_add ⟨Nat.le_of_ble_eq_true rfl, Nat.le_of_ble_eq_true rfl⟩ ⟨rfl, rfl⟩ ⟨Nat.zero_le _, Nat.zero_le _⟩ 12 rfl rfl [12, 13] rfl rfl rfl rfl (Nat.le_of_ble_eq_true rfl) dX0_handOut_31 [h12, h13] rfl rfl rfl ?_
  refine kw_aload_n X dX0_handOut_34 rfl 0 rfl ?_
  refine kw_dup X dX0_handOut_35 rfl ?_
  refine kw_get X inX0 0 rfl rfl 7 (by decide) rfl gw_109 rfl dX0_handOut_36 ?_
  refine kw_bipush X dX0_handOut_39 cb_10 ?_
  refine kw_iadd X dX0_handOut_41 ?_
  refine kw_put X E inX0 tyX0 tyX0_ok nmX0 0 rfl rfl 7 (by decide) rfl gw_109 rfl pfd_I (vp_nar_int _) rfl (Nat.le_of_ble_eq_true rfl) (ws' := wX0 cI h0 h1 h2 h3 h4 h5 h6 h7 h8 h9 h10 h11 h12 h13 h14 h15 h16 h17 h18 h19 m1 we (f_X2_add 60 le p2 1) m2 num rooms (f_X2_add 12 purses p1 (-10)) showers homes paid hours (house + 10) spent loans surges rate) rfl dX0_handOut_42 ?_
  refine kw_aload_n X dX0_handOut_45 rfl 0 rfl ?_
  refine kw_dup X dX0_handOut_46 rfl ?_
  refine kw_get X inX0 0 rfl rfl 9 (by decide) rfl gw_113 rfl dX0_handOut_47 ?_
  refine kw_iconst X dX0_handOut_50 ci_1 ?_
  refine kw_iadd X dX0_handOut_51 ?_
  refine kw_put X E inX0 tyX0 tyX0_ok nmX0 0 rfl rfl 9 (by decide) rfl gw_113 rfl pfd_I (vp_nar_int _) rfl (Nat.le_of_ble_eq_true rfl) (ws' := wX0 cI h0 h1 h2 h3 h4 h5 h6 h7 h8 h9 h10 h11 h12 h13 h14 h15 h16 h17 h18 h19 m1 we (f_X2_add 60 le p2 1) m2 num rooms (f_X2_add 12 purses p1 (-10)) showers homes paid hours (house + 10) spent (loans + 1) surges rate) rfl dX0_handOut_52 ?_
  obtain ⟨rfl, rfl, rfl, rfl, rfl, rfl⟩ := ti6 hF
  exact hret _ _ dX0_handOut_55
-- X0_lend
def f_X0_lend (Z : Nat) (sp : Nat → Int32) (we : Nat → Int32) (le : Nat → Int32) (ta : Nat → Int32) (num : Int32) (purses : Nat → Int32) (house : Int32) (loans : Int32) (p1 : Int32) (p2 : Int32) : Option (Int32 × (Nat → Int32) × (Nat → Int32) × (Nat → Int32) × (Nat → Int32) × Int32 × Int32) :=
  (ob1 (f_X5_bestAt Z sp we num p2) (fun (b1 : Int32) => (pl6 (f_X0_handOut sp le ta purses house loans p1 b1) (fun (m2 : Nat → Int32) (m3 : Nat → Int32) (m4 : Nat → Int32) (m5 : Nat → Int32) (b6 : Int32) (b7 : Int32) => (some (b1, m2, m3, m4, m5, b6, b7))))))
abbrev rm_X0_lend : Room := { frames := 3, cells := 0, slots := 0, locals := 68 }
set_option maxHeartbeats 4000000 in
set_option maxRecDepth 100000 in
theorem c_X0_lend (l : Launch) (D : va_G) (cI cC cR : ClassId) (h0 h1 h2 h3 h4 h5 h6 h7 h8 h9 h10 h11 h12 h13 h14 h15 h16 h17 h18 h19 : Nat) (sp : Nat → Int32) (we : Nat → Int32) (le : Nat → Int32) (ta : Nat → Int32) (num : Int32) (rooms : Nat → Int32) (purses : Nat → Int32) (showers : Nat → Int32) (homes : Nat → Int32) (paid : Nat → Int32) (hours : Int32) (house : Int32) (spent : Int32) (loans : Int32) (surges : Int32) (rate : Int32) (p1 : Int32) (p2 : Int32) (Z : Nat) (r : Int32) (sp' : Nat → Int32) (le' : Nat → Int32) (ta' : Nat → Int32) (purses' : Nat → Int32) (house' : Int32) (loans' : Int32) (hF : f_X0_lend Z sp we le ta num purses house loans p1 p2 = some (r, sp', le', ta', purses', house', loans')) : MEq l yX0_lend cX0_lend 4 (some .int) rm_X0_lend D (TY cI cC cR) [.ref h0, .int p1, .int p2] (wX0 cI h0 h1 h2 h3 h4 h5 h6 h7 h8 h9 h10 h11 h12 h13 h14 h15 h16 h17 h18 h19 sp we le ta num rooms purses showers homes paid hours house spent loans surges rate) (wX0 cI h0 h1 h2 h3 h4 h5 h6 h7 h8 h9 h10 h11 h12 h13 h14 h15 h16 h17 h18 h19 sp' we le' ta' num rooms purses' showers homes paid hours house' spent loans' surges rate) (some (.int r)) := by
  refine me_e pn_X0 (Nat.le_of_ble_eq_true rfl) rfl (fun Γ X E hret => ?_)
  unfold f_X0_lend at hF
  refine kw_aload_n X dX0_lend_0 rfl 0 rfl ?_
  refine kw_get X inX0 0 rfl rfl 0 (by decide) rfl gw_95 rfl dX0_lend_1 ?_
  refine kw_iload_n X dX0_lend_4 rfl 2 rfl ?_
  obtain ⟨b1, hx1, hF⟩ := ob1_ex hF
  refine kw_vp X (r := .int b1) (As := [.int p2]) (st := []) (c_X5_bestAt l D cI cC cR h1 h2 h3 h4 h5 h6 h7 h8 h9 sp we le ta num p2 Z b1 hx1) vl_X0_107 yv_X5_bestAt ⟨Nat.le_of_ble_eq_true rfl, Nat.le_of_ble_eq_true rfl⟩ ⟨rfl, rfl⟩ ⟨Nat.zero_le _, Nat.zero_le _⟩ 1 rfl rfl [1, 2, 3, 4, 5, 6, 7, 8, 9] rfl rfl rfl rfl (Nat.le_of_ble_eq_true rfl) dX0_lend_5 ?_
  refine kw_istore_n (lo' := [(0, .ref h0), (1, .int p1), (2, .int p2), (3, .int b1)]) X dX0_lend_8 rfl (by decide) [1, 2, 3, 0] rfl ?_
  refine kw_aload_n X dX0_lend_9 rfl 0 rfl ?_
  refine kw_iload_n X dX0_lend_10 rfl 1 rfl ?_
  refine kw_iload_n X dX0_lend_11 rfl 3 rfl ?_
  obtain ⟨m2, m3, m4, m5, b6, b7, hx7, hF⟩ := pl6_ex hF
  refine kw_aev X (As := [.int p1, .int b1]) (st := []) E (c_X0_handOut l D cI cC cR h0 h1 h2 h3 h4 h5 h6 h7 h8 h9 h10 h11 h12 h13 h14 h15 h16 h17 h18 h19 sp we le ta num rooms purses showers homes paid hours house spent loans surges rate p1 b1 m2 m3 m4 m5 b6 b7 hx7) vl_X0_110 yv_X0_handOut ⟨Nat.le_of_ble_eq_true rfl, Nat.le_of_ble_eq_true rfl⟩ ⟨rfl, rfl⟩ ⟨Nat.zero_le _, Nat.zero_le _⟩ 0 rfl rfl rfl rfl (Nat.le_of_ble_eq_true rfl) dX0_lend_12 ?_
  refine kw_iload_n X dX0_lend_15 rfl 3 rfl ?_
  obtain ⟨rfl, rfl, rfl, rfl, rfl, rfl, rfl⟩ := si7 hF
  exact hret _ _ (vp_nar_int _) dX0_lend_16
-- X0_returningError
def f_X0_returningError (ta : Nat → Int32) (rooms : Nat → Int32) (p1 : Int32) (p2 : Int32) : Int32 :=
  (if (f_X6_outside p1 0 11) = 0 then (if (f_X6_outside p2 0 7) = 0 then (if (f_X0_hasOne ta p1) = 0 then (-2) else (if 0 < (f_X0_freeAt ta rooms p2) then 0 else (-3))) else (-1)) else (-1))
abbrev rm_X0_returningError : Room := { frames := 3, cells := 0, slots := 0, locals := 63 }
set_option maxHeartbeats 4000000 in
set_option maxRecDepth 100000 in
theorem c_X0_returningError (l : Launch) (D : va_G) (cI cC cR : ClassId) (h0 h1 h2 h3 h4 h5 h6 h7 h8 h9 h10 h11 h12 h13 h14 h15 h16 h17 h18 h19 : Nat) (sp : Nat → Int32) (we : Nat → Int32) (le : Nat → Int32) (ta : Nat → Int32) (num : Int32) (rooms : Nat → Int32) (purses : Nat → Int32) (showers : Nat → Int32) (homes : Nat → Int32) (paid : Nat → Int32) (hours : Int32) (house : Int32) (spent : Int32) (loans : Int32) (surges : Int32) (rate : Int32) (p1 : Int32) (p2 : Int32) (r : Int32) (hF : f_X0_returningError ta rooms p1 p2 = r) : MPi l yX0_returningError cX0_returningError 3 (some .int) rm_X0_returningError D (TY cI cC cR) [.ref h0, .int p1, .int p2] (wX0 cI h0 h1 h2 h3 h4 h5 h6 h7 h8 h9 h10 h11 h12 h13 h14 h15 h16 h17 h18 h19 sp we le ta num rooms purses showers homes paid hours house spent loans surges rate) (.int r) := by
  refine me_p pn_X0 (Nat.le_of_ble_eq_true rfl) rfl (fun Γ X hret => ?_)
  unfold f_X0_returningError at hF
  refine kw_iload_n X dX0_returningError_0 rfl 1 rfl ?_
  refine kw_iconst X dX0_returningError_1 ci_0 ?_
  refine kw_bipush X dX0_returningError_2 cb_11 ?_
  refine kw_snp X (r := .int (f_X6_outside p1 0 11)) (As := [.int p1, .int 0, .int 11]) (st := []) (c_X6_outside l D cI cC cR  p1 0 11 (f_X6_outside p1 0 11) rfl) nw_27 vn_X0_82 yv_X6_outside ⟨Nat.le_of_ble_eq_true rfl, Nat.le_of_ble_eq_true rfl⟩ ⟨rfl, rfl⟩ ⟨Nat.zero_le _, Nat.zero_le _⟩ [] rfl rfl rfl rfl (Nat.le_of_ble_eq_true rfl) dX0_returningError_4 ?_
  refine kw_if_ne X 20 dX0_returningError_7 (by decide) (fun q1 => ?_) (fun q1 => ?_)
  · replace hF := (if_neg q1).symm.trans hF
    refine kw_iconst X dX0_returningError_20 ci_m1 ?_
    obtain rfl := ti1 hF
    exact hret _ _ _ (vp_nar_int _) dX0_returningError_21
  · replace hF := (if_pos q1).symm.trans hF
    refine kw_iload_n X dX0_returningError_10 rfl 2 rfl ?_
    refine kw_iconst X dX0_returningError_11 ci_0 ?_
    refine kw_bipush X dX0_returningError_12 cb_7 ?_
    refine kw_snp X (r := .int (f_X6_outside p2 0 7)) (As := [.int p2, .int 0, .int 7]) (st := []) (c_X6_outside l D cI cC cR  p2 0 7 (f_X6_outside p2 0 7) rfl) nw_27 vn_X0_82 yv_X6_outside ⟨Nat.le_of_ble_eq_true rfl, Nat.le_of_ble_eq_true rfl⟩ ⟨rfl, rfl⟩ ⟨Nat.zero_le _, Nat.zero_le _⟩ [] rfl rfl rfl rfl (Nat.le_of_ble_eq_true rfl) dX0_returningError_14 ?_
    refine kw_if_eq X 22 dX0_returningError_17 (by decide) (fun q2 => ?_) (fun q2 => ?_)
    · replace hF := (if_pos q2).symm.trans hF
      refine kw_aload_n X dX0_returningError_22 rfl 0 rfl ?_
      refine kw_iload_n X dX0_returningError_23 rfl 1 rfl ?_
      refine kw_ap X (r := .int (f_X0_hasOne ta p1)) (As := [.int p1]) (st := []) (c_X0_hasOne l D cI cC cR h0 h1 h2 h3 h4 h5 h6 h7 h8 h9 h10 h11 h12 h13 h14 h15 h16 h17 h18 h19 sp we le ta num rooms purses showers homes paid hours house spent loans surges rate p1 (f_X0_hasOne ta p1) rfl) vl_X0_122 yv_X0_hasOne ⟨Nat.le_of_ble_eq_true rfl, Nat.le_of_ble_eq_true rfl⟩ ⟨rfl, rfl⟩ ⟨Nat.zero_le _, Nat.zero_le _⟩ 0 rfl rfl rfl rfl (Nat.le_of_ble_eq_true rfl) dX0_returningError_24 ?_
      refine kw_if_ne X 33 dX0_returningError_27 (by decide) (fun q3 => ?_) (fun q3 => ?_)
      · replace hF := (if_neg q3).symm.trans hF
        refine kw_aload_n X dX0_returningError_33 rfl 0 rfl ?_
        refine kw_iload_n X dX0_returningError_34 rfl 2 rfl ?_
        refine kw_ap X (r := .int (f_X0_freeAt ta rooms p2)) (As := [.int p2]) (st := []) (c_X0_freeAt l D cI cC cR h0 h1 h2 h3 h4 h5 h6 h7 h8 h9 h10 h11 h12 h13 h14 h15 h16 h17 h18 h19 sp we le ta num rooms purses showers homes paid hours house spent loans surges rate p2 (f_X0_freeAt ta rooms p2) rfl) vl_X0_93 yv_X0_freeAt ⟨Nat.le_of_ble_eq_true rfl, Nat.le_of_ble_eq_true rfl⟩ ⟨rfl, rfl⟩ ⟨Nat.zero_le _, Nat.zero_le _⟩ 0 rfl rfl rfl rfl (Nat.le_of_ble_eq_true rfl) dX0_returningError_35 ?_
        refine kw_if_gt X 46 dX0_returningError_38 (by decide) (fun q4 => ?_) (fun q4 => ?_)
        · replace hF := (if_pos q4).symm.trans hF
          refine kw_iconst X dX0_returningError_46 ci_0 ?_
          obtain rfl := ti1 hF
          exact hret _ _ _ (vp_nar_int _) dX0_returningError_47
        · replace hF := (if_neg q4).symm.trans hF
          refine kw_bipush X dX0_returningError_41 cb_m3 ?_
          refine kw_goto X 47 dX0_returningError_43 (by decide) ?_
          obtain rfl := ti1 hF
          exact hret _ _ _ (vp_nar_int _) dX0_returningError_47
      · replace hF := (if_pos q3).symm.trans hF
        refine kw_bipush X dX0_returningError_30 cb_m2 ?_
        obtain rfl := ti1 hF
        exact hret _ _ _ (vp_nar_int _) dX0_returningError_32
    · replace hF := (if_neg q2).symm.trans hF
      refine kw_iconst X dX0_returningError_20 ci_m1 ?_
      obtain rfl := ti1 hF
      exact hret _ _ _ (vp_nar_int _) dX0_returningError_21
-- X0_feeAfter
def f_X0_feeAfter_L20 (p2 : Int32) (p3 : Int32) : Nat → Int32 → Int32 → Option (Int32)
  | 0, _, _ => none
  | F + 1, v4_13, v5_14 => (if v5_14 < p2 then (f_X0_feeAfter_L20 p2 p3 F (f_X6_wornBy v4_13 p3 0) (v5_14 + 1)) else (some (v4_13)))
def f_X0_feeAfter (Z : Nat) (sp : Nat → Int32) (we : Nat → Int32) (num : Int32) (showers : Nat → Int32) (rate : Int32) (p1 : Int32) (p2 : Int32) (p3 : Int32) : Option (Int32) :=
  (ob1 (f_X0_inHand Z sp num p1) (fun (b1 : Int32) => (ob1 (f_X0_feeAfter_L20 p2 p3 Z (f_X2_at 60 we b1) 0) (fun (e6 : Int32) => (pl1 (if p3 < 2 then 0 else p2) (fun (x8 : Int32) => (pl1 (if e6 < 32 then 0 else 4) (fun (x11 : Int32) => (some (imin 10 ((rate * ((f_X2_at 12 showers p1) + x8)) + x11)))))))))))
abbrev rm_X0_feeAfter : Room := { frames := 3, cells := 0, slots := 0, locals := 66 }
set_option maxHeartbeats 4000000 in
set_option maxRecDepth 100000 in
theorem c_X0_feeAfter (l : Launch) (D : va_G) (cI cC cR : ClassId) (h0 h1 h2 h3 h4 h5 h6 h7 h8 h9 h10 h11 h12 h13 h14 h15 h16 h17 h18 h19 : Nat) (sp : Nat → Int32) (we : Nat → Int32) (le : Nat → Int32) (ta : Nat → Int32) (num : Int32) (rooms : Nat → Int32) (purses : Nat → Int32) (showers : Nat → Int32) (homes : Nat → Int32) (paid : Nat → Int32) (hours : Int32) (house : Int32) (spent : Int32) (loans : Int32) (surges : Int32) (rate : Int32) (p1 : Int32) (p2 : Int32) (p3 : Int32) (Z : Nat) (r : Int32) (hF : f_X0_feeAfter Z sp we num showers rate p1 p2 p3 = some r) : MPi l yX0_feeAfter cX0_feeAfter 7 (some .int) rm_X0_feeAfter D (TY cI cC cR) [.ref h0, .int p1, .int p2, .int p3] (wX0 cI h0 h1 h2 h3 h4 h5 h6 h7 h8 h9 h10 h11 h12 h13 h14 h15 h16 h17 h18 h19 sp we le ta num rooms purses showers homes paid hours house spent loans surges rate) (.int r) := by
  refine me_p pn_X0 (Nat.le_of_ble_eq_true rfl) rfl (fun Γ X hret => ?_)
  unfold f_X0_feeAfter at hF
  refine kw_aload_n X dX0_feeAfter_0 rfl 0 rfl ?_
  refine kw_get X inX0 0 rfl rfl 0 (by decide) rfl gw_95 rfl dX0_feeAfter_1 ?_
  refine kw_getN X inX5 1 rfl rfl 1 (by decide) rfl nw_4 rfl dX0_feeAfter_4 ?_
  refine kw_aload_n X dX0_feeAfter_7 rfl 0 rfl ?_
  refine kw_iload_n X dX0_feeAfter_8 rfl 1 rfl ?_
  obtain ⟨b1, hx1, hF⟩ := ob1_ex hF
  refine kw_ap X (r := .int b1) (As := [.int p1]) (st := [.ref h4]) (c_X0_inHand l D cI cC cR h0 h1 h2 h3 h4 h5 h6 h7 h8 h9 h10 h11 h12 h13 h14 h15 h16 h17 h18 h19 sp we le ta num rooms purses showers homes paid hours house spent loans surges rate p1 Z b1 hx1) vl_X0_129 yv_X0_inHand ⟨Nat.le_of_ble_eq_true rfl, Nat.le_of_ble_eq_true rfl⟩ ⟨rfl, rfl⟩ ⟨Nat.zero_le _, Nat.zero_le _⟩ 0 rfl rfl rfl rfl (Nat.le_of_ble_eq_true rfl) dX0_feeAfter_9 ?_
  refine kw_vp X (r := .int (f_X2_at 60 we b1)) (As := [.int b1]) (st := []) (c_X2_at l D cI cC cR h4 h5 60 (by decide) we b1 (f_X2_at 60 we b1) rfl) vl_X0_72 yv_X2_at ⟨Nat.le_of_ble_eq_true rfl, Nat.le_of_ble_eq_true rfl⟩ ⟨rfl, rfl⟩ ⟨Nat.zero_le _, Nat.zero_le _⟩ 4 rfl rfl [4, 5] rfl rfl rfl rfl (Nat.le_of_ble_eq_true rfl) dX0_feeAfter_12 ?_
  refine kw_istore (lo' := [(0, .ref h0), (1, .int p1), (2, .int p2), (3, .int p3), (4, .int (f_X2_at 60 we b1))]) X dX0_feeAfter_15 (by decide) [1, 2, 3, 4, 0] rfl ?_
  refine kw_iconst X dX0_feeAfter_17 ci_0 ?_
  refine kw_istore (lo' := [(0, .ref h0), (1, .int p1), (2, .int p2), (3, .int p3), (4, .int (f_X2_at 60 we b1)), (5, .int 0)]) X dX0_feeAfter_18 (by decide) [1, 2, 3, 4, 5, 0] rfl ?_
  obtain ⟨e6, hx, hF⟩ := ob1_ex hF
  have J : KW Γ 0 0 (wX0 cI h0 h1 h2 h3 h4 h5 h6 h7 h8 h9 h10 h11 h12 h13 h14 h15 h16 h17 h18 h19 sp we le ta num rooms purses showers homes paid hours house spent loans surges rate) [(0, .ref h0), (1, .int p1), (2, .int p2), (3, .int p3), (4, .int e6)] 41 [] := by
    refine kw_aload_n X dX0_feeAfter_41 rfl 0 rfl ?_
    refine kw_get X inX0 0 rfl rfl 3 (by decide) rfl gw_101 rfl dX0_feeAfter_42 ?_
    refine kw_iload_n X dX0_feeAfter_45 rfl 1 rfl ?_
    refine kw_vp X (r := .int (f_X2_at 12 showers p1)) (As := [.int p1]) (st := []) (c_X2_at l D cI cC cR h14 h15 12 (by decide) showers p1 (f_X2_at 12 showers p1) rfl) vl_X0_72 yv_X2_at ⟨Nat.le_of_ble_eq_true rfl, Nat.le_of_ble_eq_true rfl⟩ ⟨rfl, rfl⟩ ⟨Nat.zero_le _, Nat.zero_le _⟩ 14 rfl rfl [14, 15] rfl rfl rfl rfl (Nat.le_of_ble_eq_true rfl) dX0_feeAfter_46 ?_
    refine kw_iload_n X dX0_feeAfter_49 rfl 3 rfl ?_
    refine kw_iconst X dX0_feeAfter_50 ci_2 ?_
    obtain ⟨x8, hx9, hF⟩ := pl1_ex hF
    have J : KW Γ 0 0 (wX0 cI h0 h1 h2 h3 h4 h5 h6 h7 h8 h9 h10 h11 h12 h13 h14 h15 h16 h17 h18 h19 sp we le ta num rooms purses showers homes paid hours house spent loans surges rate) [(0, .ref h0), (4, .int e6)] 59 [.int x8, .int (f_X2_at 12 showers p1)] := by
      refine kw_iadd X dX0_feeAfter_59 ?_
      refine kw_istore (lo' := [(0, .ref h0), (4, .int e6), (5, .int ((f_X2_at 12 showers p1) + x8))]) X dX0_feeAfter_60 (by decide) [1, 2, 0] rfl ?_
      refine kw_aload_n X dX0_feeAfter_62 rfl 0 rfl ?_
      refine kw_get X inX0 0 rfl rfl 11 (by decide) rfl gw_117 rfl dX0_feeAfter_63 ?_
      refine kw_iload X dX0_feeAfter_66 2 rfl ?_
      refine kw_imul X dX0_feeAfter_68 ?_
      refine kw_iload X dX0_feeAfter_69 1 rfl ?_
      refine kw_bipush X dX0_feeAfter_71 cb_32 ?_
      obtain ⟨x11, hx12, hF⟩ := pl1_ex hF
      have J : KW Γ 0 0 (wX0 cI h0 h1 h2 h3 h4 h5 h6 h7 h8 h9 h10 h11 h12 h13 h14 h15 h16 h17 h18 h19 sp we le ta num rooms purses showers homes paid hours house spent loans surges rate) [] 81 [.int x11, .int (rate * ((f_X2_at 12 showers p1) + x8))] := by
        refine kw_iadd X dX0_feeAfter_81 ?_
        refine kw_istore (lo' := [(6, .int ((rate * ((f_X2_at 12 showers p1) + x8)) + x11))]) X dX0_feeAfter_82 (by decide) [0] rfl ?_
        refine kw_bipush X dX0_feeAfter_84 cb_10 ?_
        refine kw_iload X dX0_feeAfter_86 0 rfl ?_
        refine kw_mmin X gw_418 gw_270 gw_17 gw_271 ⟨Nat.le_of_ble_eq_true rfl, Nat.le_of_ble_eq_true rfl⟩ ⟨Nat.zero_le _, Nat.zero_le _⟩ dX0_feeAfter_88 ?_
        obtain rfl := si1 hF
        exact hret _ _ _ (vp_nar_int _) dX0_feeAfter_91
      replace hF := hx12
      refine kw_icmp_lt X 80 dX0_feeAfter_73 (by decide) (fun q10 => ?_) (fun q10 => ?_)
      · replace hF := (if_pos q10).symm.trans hF
        refine kw_iconst X dX0_feeAfter_80 ci_0 ?_
        refine kw_loc (lo' := []) [] rfl ?_
        obtain rfl := ti1 hF
        exact J
      · replace hF := (if_neg q10).symm.trans hF
        refine kw_iconst X dX0_feeAfter_76 ci_4 ?_
        refine kw_goto X 81 dX0_feeAfter_77 (by decide) ?_
        refine kw_loc (lo' := []) [] rfl ?_
        obtain rfl := ti1 hF
        exact J
    replace hF := hx9
    refine kw_icmp_lt X 58 dX0_feeAfter_51 (by decide) (fun q7 => ?_) (fun q7 => ?_)
    · replace hF := (if_pos q7).symm.trans hF
      refine kw_iconst X dX0_feeAfter_58 ci_0 ?_
      refine kw_loc (lo' := [(0, .ref h0), (4, .int e6)]) [0, 4] rfl ?_
      obtain rfl := ti1 hF
      exact J
    · replace hF := (if_neg q7).symm.trans hF
      refine kw_iload_n X dX0_feeAfter_54 rfl 2 rfl ?_
      refine kw_goto X 59 dX0_feeAfter_55 (by decide) ?_
      refine kw_loc (lo' := [(0, .ref h0), (4, .int e6)]) [0, 4] rfl ?_
      obtain rfl := ti1 hF
      exact J
  have hL20 : ∀ (F : Nat) (v4_13 : Int32) (v5_14 : Int32), f_X0_feeAfter_L20 p2 p3 F v4_13 v5_14 = some (e6) → KW Γ 0 0 (wX0 cI h0 h1 h2 h3 h4 h5 h6 h7 h8 h9 h10 h11 h12 h13 h14 h15 h16 h17 h18 h19 sp we le ta num rooms purses showers homes paid hours house spent loans surges rate) [(0, .ref h0), (1, .int p1), (2, .int p2), (3, .int p3), (4, .int v4_13), (5, .int v5_14)] 20 [] := by
    intro F
    induction F with
    | zero => intro v4_13 v5_14 hF; exact none_some hF
    | succ F ih20 =>
      intro v4_13 v5_14 hF
      rw [f_X0_feeAfter_L20] at hF
      refine kw_iload X dX0_feeAfter_20 5 rfl ?_
      refine kw_iload_n X dX0_feeAfter_22 rfl 2 rfl ?_
      refine kw_icmp_ge X 41 dX0_feeAfter_23 (by decide) (fun q15 => ?_) (fun q15 => ?_)
      · replace hF := (if_neg q15).symm.trans hF
        refine kw_loc (lo' := [(0, .ref h0), (1, .int p1), (2, .int p2), (3, .int p3), (4, .int v4_13)]) [0, 1, 2, 3, 4] rfl ?_
        obtain rfl := si1 hF
        exact J
      · replace hF := (if_pos q15).symm.trans hF
        refine kw_iload X dX0_feeAfter_26 4 rfl ?_
        refine kw_iload_n X dX0_feeAfter_28 rfl 3 rfl ?_
        refine kw_iconst X dX0_feeAfter_29 ci_0 ?_
        refine kw_snp X (r := .int (f_X6_wornBy v4_13 p3 0)) (As := [.int v4_13, .int p3, .int 0]) (st := []) (c_X6_wornBy l D cI cC cR  v4_13 p3 0 (f_X6_wornBy v4_13 p3 0) rfl) nw_29 vn_X0_135 yv_X6_wornBy ⟨Nat.le_of_ble_eq_true rfl, Nat.le_of_ble_eq_true rfl⟩ ⟨rfl, rfl⟩ ⟨Nat.zero_le _, Nat.zero_le _⟩ [] rfl rfl rfl rfl (Nat.le_of_ble_eq_true rfl) dX0_feeAfter_30 ?_
        refine kw_istore (lo' := [(0, .ref h0), (1, .int p1), (2, .int p2), (3, .int p3), (4, .int (f_X6_wornBy v4_13 p3 0)), (5, .int v5_14)]) X dX0_feeAfter_33 (by decide) [1, 2, 3, 4, 0, 5] rfl ?_
        refine kw_iinc (lo' := [(0, .ref h0), (1, .int p1), (2, .int p2), (3, .int p3), (4, .int (f_X6_wornBy v4_13 p3 0)), (5, .int (v5_14 + 1))]) X dX0_feeAfter_35 5 rfl (congrArg (fun w => v5_14 + w) ci_1) (by decide) [1, 2, 3, 4, 5, 0] rfl ?_
        refine kw_goto X 20 dX0_feeAfter_38 (by decide) ?_
        exact ih20 _ _ hF
  exact hL20 Z _ _ hx
-- X0_takeBack
def f_X0_takeBack (Z : Nat) (sp : Nat → Int32) (we : Nat → Int32) (ta : Nat → Int32) (num : Int32) (purses : Nat → Int32) (showers : Nat → Int32) (homes : Nat → Int32) (paid : Nat → Int32) (house : Int32) (rate : Int32) (p1 : Int32) (p2 : Int32) : Option (Int32 × (Nat → Int32) × (Nat → Int32) × (Nat → Int32) × (Nat → Int32) × (Nat → Int32) × (Nat → Int32) × Int32) :=
  (ob1 (f_X0_feeAfter Z sp we num showers rate p1 0 0) (fun (b1 : Int32) => (ob1 (f_X0_inHand Z sp num p1) (fun (b2 : Int32) => (pl2 (f_X5_move sp ta b2 p2) (fun (m3 : Nat → Int32) (m4 : Nat → Int32) => (some (b1, m3, m4, (f_X2_add 12 purses p1 (10 - b1)), (f_X2_put 12 showers p1 0), (f_X2_put 12 homes p1 p2), (f_X2_add 12 paid p1 b1), (house - (10 - b1))))))))))
abbrev rm_X0_takeBack : Room := { frames := 4, cells := 0, slots := 0, locals := 92 }
set_option maxHeartbeats 4000000 in
set_option maxRecDepth 100000 in
theorem c_X0_takeBack (l : Launch) (D : va_G) (cI cC cR : ClassId) (h0 h1 h2 h3 h4 h5 h6 h7 h8 h9 h10 h11 h12 h13 h14 h15 h16 h17 h18 h19 : Nat) (sp : Nat → Int32) (we : Nat → Int32) (le : Nat → Int32) (ta : Nat → Int32) (num : Int32) (rooms : Nat → Int32) (purses : Nat → Int32) (showers : Nat → Int32) (homes : Nat → Int32) (paid : Nat → Int32) (hours : Int32) (house : Int32) (spent : Int32) (loans : Int32) (surges : Int32) (rate : Int32) (p1 : Int32) (p2 : Int32) (Z : Nat) (r : Int32) (sp' : Nat → Int32) (ta' : Nat → Int32) (purses' : Nat → Int32) (showers' : Nat → Int32) (homes' : Nat → Int32) (paid' : Nat → Int32) (house' : Int32) (hF : f_X0_takeBack Z sp we ta num purses showers homes paid house rate p1 p2 = some (r, sp', ta', purses', showers', homes', paid', house')) : MEq l yX0_takeBack cX0_takeBack 4 (some .int) rm_X0_takeBack D (TY cI cC cR) [.ref h0, .int p1, .int p2] (wX0 cI h0 h1 h2 h3 h4 h5 h6 h7 h8 h9 h10 h11 h12 h13 h14 h15 h16 h17 h18 h19 sp we le ta num rooms purses showers homes paid hours house spent loans surges rate) (wX0 cI h0 h1 h2 h3 h4 h5 h6 h7 h8 h9 h10 h11 h12 h13 h14 h15 h16 h17 h18 h19 sp' we le ta' num rooms purses' showers' homes' paid' hours house' spent loans surges rate) (some (.int r)) := by
  refine me_e pn_X0 (Nat.le_of_ble_eq_true rfl) rfl (fun Γ X E hret => ?_)
  unfold f_X0_takeBack at hF
  refine kw_aload_n X dX0_takeBack_0 rfl 0 rfl ?_
  refine kw_iload_n X dX0_takeBack_1 rfl 1 rfl ?_
  refine kw_iconst X dX0_takeBack_2 ci_0 ?_
  refine kw_iconst X dX0_takeBack_3 ci_0 ?_
  obtain ⟨b1, hx1, hF⟩ := ob1_ex hF
  refine kw_ap X (r := .int b1) (As := [.int p1, .int 0, .int 0]) (st := []) (c_X0_feeAfter l D cI cC cR h0 h1 h2 h3 h4 h5 h6 h7 h8 h9 h10 h11 h12 h13 h14 h15 h16 h17 h18 h19 sp we le ta num rooms purses showers homes paid hours house spent loans surges rate p1 0 0 Z b1 hx1) vl_X0_125 yv_X0_feeAfter ⟨Nat.le_of_ble_eq_true rfl, Nat.le_of_ble_eq_true rfl⟩ ⟨rfl, rfl⟩ ⟨Nat.zero_le _, Nat.zero_le _⟩ 0 rfl rfl rfl rfl (Nat.le_of_ble_eq_true rfl) dX0_takeBack_4 ?_
  refine kw_istore_n (lo' := [(0, .ref h0), (1, .int p1), (2, .int p2), (3, .int b1)]) X dX0_takeBack_7 rfl (by decide) [1, 2, 3, 0] rfl ?_
  refine kw_aload_n X dX0_takeBack_8 rfl 0 rfl ?_
  refine kw_get X inX0 0 rfl rfl 0 (by decide) rfl gw_95 rfl dX0_takeBack_9 ?_
  refine kw_aload_n X dX0_takeBack_12 rfl 0 rfl ?_
  refine kw_iload_n X dX0_takeBack_13 rfl 1 rfl ?_
  obtain ⟨b2, hx2, hF⟩ := ob1_ex hF
  refine kw_ap X (r := .int b2) (As := [.int p1]) (st := [.ref h1]) (c_X0_inHand l D cI cC cR h0 h1 h2 h3 h4 h5 h6 h7 h8 h9 h10 h11 h12 h13 h14 h15 h16 h17 h18 h19 sp we le ta num rooms purses showers homes paid hours house spent loans surges rate p1 Z b2 hx2) vl_X0_129 yv_X0_inHand ⟨Nat.le_of_ble_eq_true rfl, Nat.le_of_ble_eq_true rfl⟩ ⟨rfl, rfl⟩ ⟨Nat.zero_le _, Nat.zero_le _⟩ 0 rfl rfl rfl rfl (Nat.le_of_ble_eq_true rfl) dX0_takeBack_14 ?_
  refine kw_iload_n X dX0_takeBack_17 rfl 2 rfl ?_
  obtain ⟨m3, m4, hx4, hF⟩ := pl2_ex hF
  refine kw_vev X (As := [.int b2, .int p2]) (st := []) (ws' := wX0 cI h0 h1 h2 h3 h4 h5 h6 h7 h8 h9 h10 h11 h12 h13 h14 h15 h16 h17 h18 h19 m3 we le m4 num rooms purses showers homes paid hours house spent loans surges rate) E (c_X5_move l D cI cC cR h1 h2 h3 h4 h5 h6 h7 h8 h9 sp we le ta num b2 p2 m3 m4 hx4) vl_X0_113 yv_X5_move ⟨Nat.le_of_ble_eq_true rfl, Nat.le_of_ble_eq_true rfl⟩ ⟨rfl, rfl⟩ ⟨Nat.zero_le _, Nat.zero_le _⟩ 1 rfl rfl [1, 2, 3, 4, 5, 6, 7, 8, 9] rfl rfl rfl rfl (Nat.le_of_ble_eq_true rfl) dX0_takeBack_18 [h1, h2, h3, h4, h5, h6, h7, h8, h9] rfl rfl rfl ?_
  refine kw_aload_n X dX0_takeBack_21 rfl 0 rfl ?_
  refine kw_get X inX0 0 rfl rfl 2 (by decide) rfl gw_99 rfl dX0_takeBack_22 ?_
  refine kw_iload_n X dX0_takeBack_25 rfl 1 rfl ?_
  refine kw_bipush X dX0_takeBack_26 cb_10 ?_
  refine kw_iload_n X dX0_takeBack_28 rfl 3 rfl ?_
  refine kw_isub X dX0_takeBack_29 ?_
  refine kw_vev X (As := [.int p1, .int (10 - b1)]) (st := []) (ws' := wX0 cI h0 h1 h2 h3 h4 h5 h6 h7 h8 h9 h10 h11 h12 h13 h14 h15 h16 h17 h18 h19 m3 we le m4 num rooms (f_X2_add 12 purses p1 (10 - b1)) showers homes paid hours house spent loans surges rate) E (c_X2_add l D cI cC cR h12 h13 12 (by decide) purses p1 (10 - b1) (f_X2_add 12 purses p1 (10 - b1)) rfl) vl_X0_119 yv_X2_add ⟨Nat.le_of_ble_eq_true rfl, Nat.le_of_ble_eq_true rfl⟩ ⟨rfl, rfl⟩ ⟨Nat.zero_le _, Nat.zero_le _⟩ 12 rfl rfl [12, 13] rfl rfl rfl rfl (Nat.le_of_ble_eq_true rfl) dX0_takeBack_30 [h12, h13] rfl rfl rfl ?_
  refine kw_aload_n X dX0_takeBack_33 rfl 0 rfl ?_
  refine kw_dup X dX0_takeBack_34 rfl ?_
  refine kw_get X inX0 0 rfl rfl 7 (by decide) rfl gw_109 rfl dX0_takeBack_35 ?_
  refine kw_bipush X dX0_takeBack_38 cb_10 ?_
  refine kw_iload_n X dX0_takeBack_40 rfl 3 rfl ?_
  refine kw_isub X dX0_takeBack_41 ?_
  refine kw_isub X dX0_takeBack_42 ?_
  refine kw_put X E inX0 tyX0 tyX0_ok nmX0 0 rfl rfl 7 (by decide) rfl gw_109 rfl pfd_I (vp_nar_int _) rfl (Nat.le_of_ble_eq_true rfl) (ws' := wX0 cI h0 h1 h2 h3 h4 h5 h6 h7 h8 h9 h10 h11 h12 h13 h14 h15 h16 h17 h18 h19 m3 we le m4 num rooms (f_X2_add 12 purses p1 (10 - b1)) showers homes paid hours (house - (10 - b1)) spent loans surges rate) rfl dX0_takeBack_43 ?_
  refine kw_aload_n X dX0_takeBack_46 rfl 0 rfl ?_
  refine kw_get X inX0 0 rfl rfl 5 (by decide) rfl gw_105 rfl dX0_takeBack_47 ?_
  refine kw_iload_n X dX0_takeBack_50 rfl 1 rfl ?_
  refine kw_iload_n X dX0_takeBack_51 rfl 3 rfl ?_
  refine kw_vev X (As := [.int p1, .int b1]) (st := []) (ws' := wX0 cI h0 h1 h2 h3 h4 h5 h6 h7 h8 h9 h10 h11 h12 h13 h14 h15 h16 h17 h18 h19 m3 we le m4 num rooms (f_X2_add 12 purses p1 (10 - b1)) showers homes (f_X2_add 12 paid p1 b1) hours (house - (10 - b1)) spent loans surges rate) E (c_X2_add l D cI cC cR h18 h19 12 (by decide) paid p1 b1 (f_X2_add 12 paid p1 b1) rfl) vl_X0_119 yv_X2_add ⟨Nat.le_of_ble_eq_true rfl, Nat.le_of_ble_eq_true rfl⟩ ⟨rfl, rfl⟩ ⟨Nat.zero_le _, Nat.zero_le _⟩ 18 rfl rfl [18, 19] rfl rfl rfl rfl (Nat.le_of_ble_eq_true rfl) dX0_takeBack_52 [h18, h19] rfl rfl rfl ?_
  refine kw_aload_n X dX0_takeBack_55 rfl 0 rfl ?_
  refine kw_get X inX0 0 rfl rfl 3 (by decide) rfl gw_101 rfl dX0_takeBack_56 ?_
  refine kw_iload_n X dX0_takeBack_59 rfl 1 rfl ?_
  refine kw_iconst X dX0_takeBack_60 ci_0 ?_
  refine kw_vev X (As := [.int p1, .int 0]) (st := []) (ws' := wX0 cI h0 h1 h2 h3 h4 h5 h6 h7 h8 h9 h10 h11 h12 h13 h14 h15 h16 h17 h18 h19 m3 we le m4 num rooms (f_X2_add 12 purses p1 (10 - b1)) (f_X2_put 12 showers p1 0) homes (f_X2_add 12 paid p1 b1) hours (house - (10 - b1)) spent loans surges rate) E (c_X2_put l D cI cC cR h14 h15 12 (by decide) showers p1 0 (f_X2_put 12 showers p1 0) rfl) vl_X0_46 yv_X2_put ⟨Nat.le_of_ble_eq_true rfl, Nat.le_of_ble_eq_true rfl⟩ ⟨rfl, rfl⟩ ⟨Nat.zero_le _, Nat.zero_le _⟩ 14 rfl rfl [14, 15] rfl rfl rfl rfl (Nat.le_of_ble_eq_true rfl) dX0_takeBack_61 [h14, h15] rfl rfl rfl ?_
  refine kw_aload_n X dX0_takeBack_64 rfl 0 rfl ?_
  refine kw_get X inX0 0 rfl rfl 4 (by decide) rfl gw_103 rfl dX0_takeBack_65 ?_
  refine kw_iload_n X dX0_takeBack_68 rfl 1 rfl ?_
  refine kw_iload_n X dX0_takeBack_69 rfl 2 rfl ?_
  refine kw_vev X (As := [.int p1, .int p2]) (st := []) (ws' := wX0 cI h0 h1 h2 h3 h4 h5 h6 h7 h8 h9 h10 h11 h12 h13 h14 h15 h16 h17 h18 h19 m3 we le m4 num rooms (f_X2_add 12 purses p1 (10 - b1)) (f_X2_put 12 showers p1 0) (f_X2_put 12 homes p1 p2) (f_X2_add 12 paid p1 b1) hours (house - (10 - b1)) spent loans surges rate) E (c_X2_put l D cI cC cR h16 h17 12 (by decide) homes p1 p2 (f_X2_put 12 homes p1 p2) rfl) vl_X0_46 yv_X2_put ⟨Nat.le_of_ble_eq_true rfl, Nat.le_of_ble_eq_true rfl⟩ ⟨rfl, rfl⟩ ⟨Nat.zero_le _, Nat.zero_le _⟩ 16 rfl rfl [16, 17] rfl rfl rfl rfl (Nat.le_of_ble_eq_true rfl) dX0_takeBack_70 [h16, h17] rfl rfl rfl ?_
  refine kw_iload_n X dX0_takeBack_73 rfl 3 rfl ?_
  obtain ⟨rfl, rfl, rfl, rfl, rfl, rfl, rfl, rfl⟩ := si8 hF
  exact hret _ _ (vp_nar_int _) dX0_takeBack_74
-- X0_hoursToBreak
def f_X0_hoursToBreak_L20 (p2 : Int32) (p3 : Int32) : Nat → Int32 → Int32 → Option (Int32)
  | 0, _, _ => none
  | F + 1, v4_8, v5_9 => (if 100 < v5_9 then (some (-9)) else (if v4_8 < 32 then (f_X0_hoursToBreak_L20 p2 p3 F (f_X6_wornBy v4_8 p2 p3) (v5_9 + 1)) else (some v5_9)))
def f_X0_hoursToBreak (Z : Nat) (sp : Nat → Int32) (we : Nat → Int32) (num : Int32) (p1 : Int32) (p2 : Int32) (p3 : Int32) : Option (Int32) :=
  (ob1 (f_X0_inHand Z sp num p1) (fun (b1 : Int32) => (f_X0_hoursToBreak_L20 p2 p3 Z (f_X2_at 60 we b1) 0)))
abbrev rm_X0_hoursToBreak : Room := { frames := 3, cells := 0, slots := 0, locals := 66 }
set_option maxHeartbeats 4000000 in
set_option maxRecDepth 100000 in
theorem c_X0_hoursToBreak (l : Launch) (D : va_G) (cI cC cR : ClassId) (h0 h1 h2 h3 h4 h5 h6 h7 h8 h9 h10 h11 h12 h13 h14 h15 h16 h17 h18 h19 : Nat) (sp : Nat → Int32) (we : Nat → Int32) (le : Nat → Int32) (ta : Nat → Int32) (num : Int32) (rooms : Nat → Int32) (purses : Nat → Int32) (showers : Nat → Int32) (homes : Nat → Int32) (paid : Nat → Int32) (hours : Int32) (house : Int32) (spent : Int32) (loans : Int32) (surges : Int32) (rate : Int32) (p1 : Int32) (p2 : Int32) (p3 : Int32) (Z : Nat) (r : Int32) (hF : f_X0_hoursToBreak Z sp we num p1 p2 p3 = some r) : MPi l yX0_hoursToBreak cX0_hoursToBreak 6 (some .int) rm_X0_hoursToBreak D (TY cI cC cR) [.ref h0, .int p1, .int p2, .int p3] (wX0 cI h0 h1 h2 h3 h4 h5 h6 h7 h8 h9 h10 h11 h12 h13 h14 h15 h16 h17 h18 h19 sp we le ta num rooms purses showers homes paid hours house spent loans surges rate) (.int r) := by
  refine me_p pn_X0 (Nat.le_of_ble_eq_true rfl) rfl (fun Γ X hret => ?_)
  unfold f_X0_hoursToBreak at hF
  refine kw_aload_n X dX0_hoursToBreak_0 rfl 0 rfl ?_
  refine kw_get X inX0 0 rfl rfl 0 (by decide) rfl gw_95 rfl dX0_hoursToBreak_1 ?_
  refine kw_getN X inX5 1 rfl rfl 1 (by decide) rfl nw_4 rfl dX0_hoursToBreak_4 ?_
  refine kw_aload_n X dX0_hoursToBreak_7 rfl 0 rfl ?_
  refine kw_iload_n X dX0_hoursToBreak_8 rfl 1 rfl ?_
  obtain ⟨b1, hx1, hF⟩ := ob1_ex hF
  refine kw_ap X (r := .int b1) (As := [.int p1]) (st := [.ref h4]) (c_X0_inHand l D cI cC cR h0 h1 h2 h3 h4 h5 h6 h7 h8 h9 h10 h11 h12 h13 h14 h15 h16 h17 h18 h19 sp we le ta num rooms purses showers homes paid hours house spent loans surges rate p1 Z b1 hx1) vl_X0_129 yv_X0_inHand ⟨Nat.le_of_ble_eq_true rfl, Nat.le_of_ble_eq_true rfl⟩ ⟨rfl, rfl⟩ ⟨Nat.zero_le _, Nat.zero_le _⟩ 0 rfl rfl rfl rfl (Nat.le_of_ble_eq_true rfl) dX0_hoursToBreak_9 ?_
  refine kw_vp X (r := .int (f_X2_at 60 we b1)) (As := [.int b1]) (st := []) (c_X2_at l D cI cC cR h4 h5 60 (by decide) we b1 (f_X2_at 60 we b1) rfl) vl_X0_72 yv_X2_at ⟨Nat.le_of_ble_eq_true rfl, Nat.le_of_ble_eq_true rfl⟩ ⟨rfl, rfl⟩ ⟨Nat.zero_le _, Nat.zero_le _⟩ 4 rfl rfl [4, 5] rfl rfl rfl rfl (Nat.le_of_ble_eq_true rfl) dX0_hoursToBreak_12 ?_
  refine kw_istore (lo' := [(0, .ref h0), (1, .int p1), (2, .int p2), (3, .int p3), (4, .int (f_X2_at 60 we b1))]) X dX0_hoursToBreak_15 (by decide) [1, 2, 3, 4, 0] rfl ?_
  refine kw_iconst X dX0_hoursToBreak_17 ci_0 ?_
  refine kw_istore (lo' := [(0, .ref h0), (1, .int p1), (2, .int p2), (3, .int p3), (4, .int (f_X2_at 60 we b1)), (5, .int 0)]) X dX0_hoursToBreak_18 (by decide) [1, 2, 3, 4, 5, 0] rfl ?_
  refine kw_loc (lo' := [(2, .int p2), (3, .int p3), (4, .int (f_X2_at 60 we b1)), (5, .int 0)]) [2, 3, 4, 5] rfl ?_
  have hL20 : ∀ (F : Nat) (v4_8 : Int32) (v5_9 : Int32), f_X0_hoursToBreak_L20 p2 p3 F v4_8 v5_9 = some r → KW Γ 0 0 (wX0 cI h0 h1 h2 h3 h4 h5 h6 h7 h8 h9 h10 h11 h12 h13 h14 h15 h16 h17 h18 h19 sp we le ta num rooms purses showers homes paid hours house spent loans surges rate) [(2, .int p2), (3, .int p3), (4, .int v4_8), (5, .int v5_9)] 20 [] := by
    intro F
    induction F with
    | zero => intro v4_8 v5_9 hF; exact none_some hF
    | succ F ih20 =>
      intro v4_8 v5_9 hF
      rw [f_X0_hoursToBreak_L20] at hF
      refine kw_iload X dX0_hoursToBreak_20 3 rfl ?_
      refine kw_bipush X dX0_hoursToBreak_22 cb_100 ?_
      refine kw_icmp_gt X 52 dX0_hoursToBreak_24 (by decide) (fun q10 => ?_) (fun q10 => ?_)
      · replace hF := (if_pos q10).symm.trans hF
        refine kw_bipush X dX0_hoursToBreak_52 cb_m9 ?_
        obtain rfl := si1 hF
        exact hret _ _ _ (vp_nar_int _) dX0_hoursToBreak_54
      · replace hF := (if_neg q10).symm.trans hF
        refine kw_iload X dX0_hoursToBreak_27 2 rfl ?_
        refine kw_bipush X dX0_hoursToBreak_29 cb_32 ?_
        refine kw_icmp_lt X 37 dX0_hoursToBreak_31 (by decide) (fun q11 => ?_) (fun q11 => ?_)
        · replace hF := (if_pos q11).symm.trans hF
          refine kw_iload X dX0_hoursToBreak_37 2 rfl ?_
          refine kw_iload_n X dX0_hoursToBreak_39 rfl 0 rfl ?_
          refine kw_iload_n X dX0_hoursToBreak_40 rfl 1 rfl ?_
          refine kw_snp X (r := .int (f_X6_wornBy v4_8 p2 p3)) (As := [.int v4_8, .int p2, .int p3]) (st := []) (c_X6_wornBy l D cI cC cR  v4_8 p2 p3 (f_X6_wornBy v4_8 p2 p3) rfl) nw_29 vn_X0_135 yv_X6_wornBy ⟨Nat.le_of_ble_eq_true rfl, Nat.le_of_ble_eq_true rfl⟩ ⟨rfl, rfl⟩ ⟨Nat.zero_le _, Nat.zero_le _⟩ [] rfl rfl rfl rfl (Nat.le_of_ble_eq_true rfl) dX0_hoursToBreak_41 ?_
          refine kw_istore (lo' := [(2, .int p2), (3, .int p3), (4, .int (f_X6_wornBy v4_8 p2 p3)), (5, .int v5_9)]) X dX0_hoursToBreak_44 (by decide) [1, 2, 0, 3] rfl ?_
          refine kw_iinc (lo' := [(2, .int p2), (3, .int p3), (4, .int (f_X6_wornBy v4_8 p2 p3)), (5, .int (v5_9 + 1))]) X dX0_hoursToBreak_46 3 rfl (congrArg (fun w => v5_9 + w) ci_1) (by decide) [1, 2, 3, 0] rfl ?_
          refine kw_goto X 20 dX0_hoursToBreak_49 (by decide) ?_
          exact ih20 _ _ hF
        · replace hF := (if_neg q11).symm.trans hF
          refine kw_iload X dX0_hoursToBreak_34 3 rfl ?_
          obtain rfl := si1 hF
          exact hret _ _ _ (vp_nar_int _) dX0_hoursToBreak_36
  exact hL20 Z _ _ hF
-- X0_passingError
def f_X0_passingError (hours : Int32) (p1 : Int32) (p2 : Int32) : Int32 :=
  (if (f_X6_outside p1 0 9) = 0 then (if (f_X6_outside p2 0 3) = 0 then (if hours < 500 then 0 else (-3)) else (-1)) else (-1))
abbrev rm_X0_passingError : Room := { frames := 1, cells := 0, slots := 0, locals := 22 }
set_option maxHeartbeats 4000000 in
set_option maxRecDepth 100000 in
theorem c_X0_passingError (l : Launch) (D : va_G) (cI cC cR : ClassId) (h0 h1 h2 h3 h4 h5 h6 h7 h8 h9 h10 h11 h12 h13 h14 h15 h16 h17 h18 h19 : Nat) (sp : Nat → Int32) (we : Nat → Int32) (le : Nat → Int32) (ta : Nat → Int32) (num : Int32) (rooms : Nat → Int32) (purses : Nat → Int32) (showers : Nat → Int32) (homes : Nat → Int32) (paid : Nat → Int32) (hours : Int32) (house : Int32) (spent : Int32) (loans : Int32) (surges : Int32) (rate : Int32) (p1 : Int32) (p2 : Int32) (r : Int32) (hF : f_X0_passingError hours p1 p2 = r) : MPi l yX0_passingError cX0_passingError 3 (some .int) rm_X0_passingError D (TY cI cC cR) [.ref h0, .int p1, .int p2] (wX0 cI h0 h1 h2 h3 h4 h5 h6 h7 h8 h9 h10 h11 h12 h13 h14 h15 h16 h17 h18 h19 sp we le ta num rooms purses showers homes paid hours house spent loans surges rate) (.int r) := by
  refine me_p pn_X0 (Nat.le_of_ble_eq_true rfl) rfl (fun Γ X hret => ?_)
  unfold f_X0_passingError at hF
  refine kw_iload_n X dX0_passingError_0 rfl 1 rfl ?_
  refine kw_iconst X dX0_passingError_1 ci_0 ?_
  refine kw_bipush X dX0_passingError_2 cb_9 ?_
  refine kw_snp X (r := .int (f_X6_outside p1 0 9)) (As := [.int p1, .int 0, .int 9]) (st := []) (c_X6_outside l D cI cC cR  p1 0 9 (f_X6_outside p1 0 9) rfl) nw_27 vn_X0_82 yv_X6_outside ⟨Nat.le_of_ble_eq_true rfl, Nat.le_of_ble_eq_true rfl⟩ ⟨rfl, rfl⟩ ⟨Nat.zero_le _, Nat.zero_le _⟩ [] rfl rfl rfl rfl (Nat.le_of_ble_eq_true rfl) dX0_passingError_4 ?_
  refine kw_if_ne X 19 dX0_passingError_7 (by decide) (fun q1 => ?_) (fun q1 => ?_)
  · replace hF := (if_neg q1).symm.trans hF
    refine kw_iconst X dX0_passingError_19 ci_m1 ?_
    obtain rfl := ti1 hF
    exact hret _ _ _ (vp_nar_int _) dX0_passingError_20
  · replace hF := (if_pos q1).symm.trans hF
    refine kw_iload_n X dX0_passingError_10 rfl 2 rfl ?_
    refine kw_iconst X dX0_passingError_11 ci_0 ?_
    refine kw_iconst X dX0_passingError_12 ci_3 ?_
    refine kw_snp X (r := .int (f_X6_outside p2 0 3)) (As := [.int p2, .int 0, .int 3]) (st := []) (c_X6_outside l D cI cC cR  p2 0 3 (f_X6_outside p2 0 3) rfl) nw_27 vn_X0_82 yv_X6_outside ⟨Nat.le_of_ble_eq_true rfl, Nat.le_of_ble_eq_true rfl⟩ ⟨rfl, rfl⟩ ⟨Nat.zero_le _, Nat.zero_le _⟩ [] rfl rfl rfl rfl (Nat.le_of_ble_eq_true rfl) dX0_passingError_13 ?_
    refine kw_if_eq X 21 dX0_passingError_16 (by decide) (fun q2 => ?_) (fun q2 => ?_)
    · replace hF := (if_pos q2).symm.trans hF
      refine kw_aload_n X dX0_passingError_21 rfl 0 rfl ?_
      refine kw_get X inX0 0 rfl rfl 6 (by decide) rfl gw_107 rfl dX0_passingError_22 ?_
      refine kw_sipush X dX0_passingError_25 cs_500 ?_
      refine kw_icmp_lt X 36 dX0_passingError_28 (by decide) (fun q3 => ?_) (fun q3 => ?_)
      · replace hF := (if_pos q3).symm.trans hF
        refine kw_iconst X dX0_passingError_36 ci_0 ?_
        obtain rfl := ti1 hF
        exact hret _ _ _ (vp_nar_int _) dX0_passingError_37
      · replace hF := (if_neg q3).symm.trans hF
        refine kw_bipush X dX0_passingError_31 cb_m3 ?_
        refine kw_goto X 37 dX0_passingError_33 (by decide) ?_
        obtain rfl := ti1 hF
        exact hret _ _ _ (vp_nar_int _) dX0_passingError_37
    · replace hF := (if_neg q2).symm.trans hF
      refine kw_iconst X dX0_passingError_19 ci_m1 ?_
      obtain rfl := ti1 hF
      exact hret _ _ _ (vp_nar_int _) dX0_passingError_20
-- X0_countShower
def f_X0_countShower_L2 (ta : Nat → Int32) : Nat → Int32 → (Nat → Int32) → Option ((Nat → Int32))
  | 0, _, _ => none
  | F + 1, v1_12, w13 => (if v1_12 < 12 then (pl1 (if (f_X0_hasOne ta v1_12) = 0 then w13 else (f_X2_add 12 w13 v1_12 1)) (fun (w16 : Nat → Int32) => (f_X0_countShower_L2 ta F (v1_12 + 1) w16))) else (some (w13)))
def f_X0_countShower (Z : Nat) (ta : Nat → Int32) (showers : Nat → Int32) : Option ((Nat → Int32)) :=
  (ob1 (f_X0_countShower_L2 ta Z 0 showers) (fun (w11 : Nat → Int32) => (some w11)))
abbrev rm_X0_countShower : Room := { frames := 3, cells := 0, slots := 0, locals := 63 }
set_option maxHeartbeats 4000000 in
set_option maxRecDepth 100000 in
theorem c_X0_countShower (l : Launch) (D : va_G) (cI cC cR : ClassId) (h0 h1 h2 h3 h4 h5 h6 h7 h8 h9 h10 h11 h12 h13 h14 h15 h16 h17 h18 h19 : Nat) (sp : Nat → Int32) (we : Nat → Int32) (le : Nat → Int32) (ta : Nat → Int32) (num : Int32) (rooms : Nat → Int32) (purses : Nat → Int32) (showers : Nat → Int32) (homes : Nat → Int32) (paid : Nat → Int32) (hours : Int32) (house : Int32) (spent : Int32) (loans : Int32) (surges : Int32) (rate : Int32) (Z : Nat) (showers' : Nat → Int32) (hF : f_X0_countShower Z ta showers = some showers') : MEq l yX0_countShower cX0_countShower 2 none rm_X0_countShower D (TY cI cC cR) [.ref h0] (wX0 cI h0 h1 h2 h3 h4 h5 h6 h7 h8 h9 h10 h11 h12 h13 h14 h15 h16 h17 h18 h19 sp we le ta num rooms purses showers homes paid hours house spent loans surges rate) (wX0 cI h0 h1 h2 h3 h4 h5 h6 h7 h8 h9 h10 h11 h12 h13 h14 h15 h16 h17 h18 h19 sp we le ta num rooms purses showers' homes paid hours house spent loans surges rate) none := by
  refine me_v pn_X0 (Nat.le_of_ble_eq_true rfl) rfl (fun Γ X E hret => ?_)
  unfold f_X0_countShower at hF
  refine kw_iconst X dX0_countShower_0 ci_0 ?_
  refine kw_istore_n (lo' := [(0, .ref h0), (1, .int 0)]) X dX0_countShower_1 rfl (by decide) [1, 0] rfl ?_
  obtain ⟨w11, hx, hF⟩ := ob1_ex hF
  have J : KW Γ 0 0 (wX0 cI h0 h1 h2 h3 h4 h5 h6 h7 h8 h9 h10 h11 h12 h13 h14 h15 h16 h17 h18 h19 sp we le ta num rooms purses w11 homes paid hours house spent loans surges rate) [] 31 [] := by
    obtain rfl := si1 hF
    exact hret _ _ dX0_countShower_31
  have hL2 : ∀ (F : Nat) (v1_12 : Int32) (w13 : Nat → Int32), f_X0_countShower_L2 ta F v1_12 w13 = some (w11) → KW Γ 0 0 (wX0 cI h0 h1 h2 h3 h4 h5 h6 h7 h8 h9 h10 h11 h12 h13 h14 h15 h16 h17 h18 h19 sp we le ta num rooms purses w13 homes paid hours house spent loans surges rate) [(0, .ref h0), (1, .int v1_12)] 2 [] := by
    intro F
    induction F with
    | zero => intro v1_12 w13 hF; exact none_some hF
    | succ F ih2 =>
      intro v1_12 w13 hF
      rw [f_X0_countShower_L2] at hF
      refine kw_iload_n X dX0_countShower_2 rfl 1 rfl ?_
      refine kw_bipush X dX0_countShower_3 cb_12 ?_
      refine kw_icmp_ge X 31 dX0_countShower_5 (by decide) (fun q14 => ?_) (fun q14 => ?_)
      · replace hF := (if_neg q14).symm.trans hF
        refine kw_loc (lo' := []) [] rfl ?_
        obtain rfl := si1 hF
        exact J
      · replace hF := (if_pos q14).symm.trans hF
        refine kw_aload_n X dX0_countShower_8 rfl 0 rfl ?_
        refine kw_iload_n X dX0_countShower_9 rfl 1 rfl ?_
        refine kw_ap X (r := .int (f_X0_hasOne ta v1_12)) (As := [.int v1_12]) (st := []) (c_X0_hasOne l D cI cC cR h0 h1 h2 h3 h4 h5 h6 h7 h8 h9 h10 h11 h12 h13 h14 h15 h16 h17 h18 h19 sp we le ta num rooms purses w13 homes paid hours house spent loans surges rate v1_12 (f_X0_hasOne ta v1_12) rfl) vl_X0_122 yv_X0_hasOne ⟨Nat.le_of_ble_eq_true rfl, Nat.le_of_ble_eq_true rfl⟩ ⟨rfl, rfl⟩ ⟨Nat.zero_le _, Nat.zero_le _⟩ 0 rfl rfl rfl rfl (Nat.le_of_ble_eq_true rfl) dX0_countShower_10 ?_
        obtain ⟨w16, hx17, hF⟩ := pl1_ex hF
        have J : KW Γ 0 0 (wX0 cI h0 h1 h2 h3 h4 h5 h6 h7 h8 h9 h10 h11 h12 h13 h14 h15 h16 h17 h18 h19 sp we le ta num rooms purses w16 homes paid hours house spent loans surges rate) [(0, .ref h0), (1, .int v1_12)] 25 [] := by
          refine kw_iinc (lo' := [(0, .ref h0), (1, .int (v1_12 + 1))]) X dX0_countShower_25 1 rfl (congrArg (fun w => v1_12 + w) ci_1) (by decide) [1, 0] rfl ?_
          refine kw_goto X 2 dX0_countShower_28 (by decide) ?_
          exact ih2 _ _ hF
        replace hF := hx17
        refine kw_if_eq X 25 dX0_countShower_13 (by decide) (fun q15 => ?_) (fun q15 => ?_)
        · replace hF := (if_pos q15).symm.trans hF
          obtain rfl := ti1 hF
          exact J
        · replace hF := (if_neg q15).symm.trans hF
          refine kw_aload_n X dX0_countShower_16 rfl 0 rfl ?_
          refine kw_get X inX0 0 rfl rfl 3 (by decide) rfl gw_101 rfl dX0_countShower_17 ?_
          refine kw_iload_n X dX0_countShower_20 rfl 1 rfl ?_
          refine kw_iconst X dX0_countShower_21 ci_1 ?_
          refine kw_vev X (As := [.int v1_12, .int 1]) (st := []) (ws' := wX0 cI h0 h1 h2 h3 h4 h5 h6 h7 h8 h9 h10 h11 h12 h13 h14 h15 h16 h17 h18 h19 sp we le ta num rooms purses (f_X2_add 12 w13 v1_12 1) homes paid hours house spent loans surges rate) E (c_X2_add l D cI cC cR h14 h15 12 (by decide) w13 v1_12 1 (f_X2_add 12 w13 v1_12 1) rfl) vl_X0_119 yv_X2_add ⟨Nat.le_of_ble_eq_true rfl, Nat.le_of_ble_eq_true rfl⟩ ⟨rfl, rfl⟩ ⟨Nat.zero_le _, Nat.zero_le _⟩ 14 rfl rfl [14, 15] rfl rfl rfl rfl (Nat.le_of_ble_eq_true rfl) dX0_countShower_22 [h14, h15] rfl rfl rfl ?_
          obtain rfl := ti1 hF
          exact J
  exact hL2 Z _ _ hx
-- X0_wearDown
def f_X0_wearDown_L5 (sp : Nat → Int32) (num : Int32) (p1 : Int32) (p2 : Int32) : Nat → Int32 → Int32 → (Nat → Int32) → Option (Int32 × (Nat → Int32))
  | 0, _, _, _ => none
  | F + 1, v3_24, v4_25, w26 => (if v4_25 < num then (pl2 (if (f_X6_kindOf (f_X2_at 60 sp v4_25)) = 1 then (if (f_X2_at 60 w26 v4_25) < 32 then (if (f_X6_wornBy (f_X2_at 60 w26 v4_25) p1 p2) < 32 then (v3_24, (f_X2_put 60 w26 v4_25 (f_X6_wornBy (f_X2_at 60 w26 v4_25) p1 p2))) else ((v3_24 + 1), (f_X2_put 60 w26 v4_25 (f_X6_wornBy (f_X2_at 60 w26 v4_25) p1 p2)))) else (v3_24, (f_X2_put 60 w26 v4_25 (f_X6_wornBy (f_X2_at 60 w26 v4_25) p1 p2)))) else (v3_24, w26)) (fun (v3_31 : Int32) (w32 : Nat → Int32) => (f_X0_wearDown_L5 sp num p1 p2 F v3_31 (v4_25 + 1) w32))) else (some (v3_24, w26)))
def f_X0_wearDown (Z : Nat) (sp : Nat → Int32) (we : Nat → Int32) (num : Int32) (p1 : Int32) (p2 : Int32) : Option (Int32 × (Nat → Int32)) :=
  (ob2 (f_X0_wearDown_L5 sp num p1 p2 Z 0 0 we) (fun (e22 : Int32) (w23 : Nat → Int32) => (some (e22, w23))))
abbrev rm_X0_wearDown : Room := { frames := 2, cells := 0, slots := 0, locals := 44 }
set_option maxHeartbeats 4000000 in
set_option maxRecDepth 100000 in
theorem c_X0_wearDown (l : Launch) (D : va_G) (cI cC cR : ClassId) (h0 h1 h2 h3 h4 h5 h6 h7 h8 h9 h10 h11 h12 h13 h14 h15 h16 h17 h18 h19 : Nat) (sp : Nat → Int32) (we : Nat → Int32) (le : Nat → Int32) (ta : Nat → Int32) (num : Int32) (rooms : Nat → Int32) (purses : Nat → Int32) (showers : Nat → Int32) (homes : Nat → Int32) (paid : Nat → Int32) (hours : Int32) (house : Int32) (spent : Int32) (loans : Int32) (surges : Int32) (rate : Int32) (p1 : Int32) (p2 : Int32) (Z : Nat) (r : Int32) (we' : Nat → Int32) (hF : f_X0_wearDown Z sp we num p1 p2 = some (r, we')) : MEq l yX0_wearDown cX0_wearDown 7 (some .int) rm_X0_wearDown D (TY cI cC cR) [.ref h0, .int p1, .int p2] (wX0 cI h0 h1 h2 h3 h4 h5 h6 h7 h8 h9 h10 h11 h12 h13 h14 h15 h16 h17 h18 h19 sp we le ta num rooms purses showers homes paid hours house spent loans surges rate) (wX0 cI h0 h1 h2 h3 h4 h5 h6 h7 h8 h9 h10 h11 h12 h13 h14 h15 h16 h17 h18 h19 sp we' le ta num rooms purses showers homes paid hours house spent loans surges rate) (some (.int r)) := by
  refine me_e pn_X0 (Nat.le_of_ble_eq_true rfl) rfl (fun Γ X E hret => ?_)
  unfold f_X0_wearDown at hF
  refine kw_iconst X dX0_wearDown_0 ci_0 ?_
  refine kw_istore_n (lo' := [(0, .ref h0), (1, .int p1), (2, .int p2), (3, .int 0)]) X dX0_wearDown_1 rfl (by decide) [1, 2, 3, 0] rfl ?_
  refine kw_iconst X dX0_wearDown_2 ci_0 ?_
  refine kw_istore (lo' := [(0, .ref h0), (1, .int p1), (2, .int p2), (3, .int 0), (4, .int 0)]) X dX0_wearDown_3 (by decide) [1, 2, 3, 4, 0] rfl ?_
  obtain ⟨e22, w23, hx, hF⟩ := ob2_ex hF
  have J : KW Γ 0 0 (wX0 cI h0 h1 h2 h3 h4 h5 h6 h7 h8 h9 h10 h11 h12 h13 h14 h15 h16 h17 h18 h19 sp w23 le ta num rooms purses showers homes paid hours house spent loans surges rate) [(3, .int e22)] 96 [] := by
    refine kw_iload_n X dX0_wearDown_96 rfl 0 rfl ?_
    obtain ⟨rfl, rfl⟩ := si2 hF
    exact hret _ _ (vp_nar_int _) dX0_wearDown_97
  have hL5 : ∀ (F : Nat) (v3_24 : Int32) (v4_25 : Int32) (w26 : Nat → Int32), f_X0_wearDown_L5 sp num p1 p2 F v3_24 v4_25 w26 = some (e22, w23) → KW Γ 0 0 (wX0 cI h0 h1 h2 h3 h4 h5 h6 h7 h8 h9 h10 h11 h12 h13 h14 h15 h16 h17 h18 h19 sp w26 le ta num rooms purses showers homes paid hours house spent loans surges rate) [(0, .ref h0), (1, .int p1), (2, .int p2), (3, .int v3_24), (4, .int v4_25)] 5 [] := by
    intro F
    induction F with
    | zero => intro v3_24 v4_25 w26 hF; exact none_some hF
    | succ F ih5 =>
      intro v3_24 v4_25 w26 hF
      rw [f_X0_wearDown_L5] at hF
      refine kw_iload X dX0_wearDown_5 4 rfl ?_
      refine kw_aload_n X dX0_wearDown_7 rfl 0 rfl ?_
      refine kw_get X inX0 0 rfl rfl 0 (by decide) rfl gw_95 rfl dX0_wearDown_8 ?_
      refine kw_getN X inX5 1 rfl rfl 4 (by decide) rfl nw_8 rfl dX0_wearDown_11 ?_
      refine kw_icmp_ge X 96 dX0_wearDown_14 (by decide) (fun q27 => ?_) (fun q27 => ?_)
      · replace hF := (if_neg q27).symm.trans hF
        refine kw_loc (lo' := [(3, .int v3_24)]) [3] rfl ?_
        obtain ⟨rfl, rfl⟩ := si2 hF
        exact J
      · replace hF := (if_pos q27).symm.trans hF
        refine kw_aload_n X dX0_wearDown_17 rfl 0 rfl ?_
        refine kw_get X inX0 0 rfl rfl 0 (by decide) rfl gw_95 rfl dX0_wearDown_18 ?_
        refine kw_getN X inX5 1 rfl rfl 0 (by decide) rfl nw_3 rfl dX0_wearDown_21 ?_
        refine kw_iload X dX0_wearDown_24 4 rfl ?_
        refine kw_vp X (r := .int (f_X2_at 60 sp v4_25)) (As := [.int v4_25]) (st := []) (c_X2_at l D cI cC cR h2 h3 60 (by decide) sp v4_25 (f_X2_at 60 sp v4_25) rfl) vl_X0_72 yv_X2_at ⟨Nat.le_of_ble_eq_true rfl, Nat.le_of_ble_eq_true rfl⟩ ⟨rfl, rfl⟩ ⟨Nat.zero_le _, Nat.zero_le _⟩ 2 rfl rfl [2, 3] rfl rfl rfl rfl (Nat.le_of_ble_eq_true rfl) dX0_wearDown_26 ?_
        refine kw_snp X (r := .int (f_X6_kindOf (f_X2_at 60 sp v4_25))) (As := [.int (f_X2_at 60 sp v4_25)]) (st := []) (c_X6_kindOf l D cI cC cR  (f_X2_at 60 sp v4_25) (f_X6_kindOf (f_X2_at 60 sp v4_25)) rfl) nw_30 vn_X0_155 yv_X6_kindOf ⟨Nat.le_of_ble_eq_true rfl, Nat.le_of_ble_eq_true rfl⟩ ⟨rfl, rfl⟩ ⟨Nat.zero_le _, Nat.zero_le _⟩ [] rfl rfl rfl rfl (Nat.le_of_ble_eq_true rfl) dX0_wearDown_29 ?_
        refine kw_iconst X dX0_wearDown_32 ci_1 ?_
        obtain ⟨v3_31, w32, hx33, hF⟩ := pl2_ex hF
        have J : KW Γ 0 0 (wX0 cI h0 h1 h2 h3 h4 h5 h6 h7 h8 h9 h10 h11 h12 h13 h14 h15 h16 h17 h18 h19 sp w32 le ta num rooms purses showers homes paid hours house spent loans surges rate) [(0, .ref h0), (1, .int p1), (2, .int p2), (3, .int v3_31), (4, .int v4_25)] 90 [] := by
          refine kw_iinc (lo' := [(0, .ref h0), (1, .int p1), (2, .int p2), (3, .int v3_31), (4, .int (v4_25 + 1))]) X dX0_wearDown_90 4 rfl (congrArg (fun w => v4_25 + w) ci_1) (by decide) [1, 2, 3, 4, 0] rfl ?_
          refine kw_goto X 5 dX0_wearDown_93 (by decide) ?_
          exact ih5 _ _ _ hF
        replace hF := hx33
        refine kw_icmp_ne X 90 dX0_wearDown_33 (by decide) (fun q28 => ?_) (fun q28 => ?_)
        · replace hF := (if_neg q28).symm.trans hF
          obtain ⟨rfl, rfl⟩ := ti2 hF
          exact J
        · replace hF := (if_pos q28).symm.trans hF
          refine kw_aload_n X dX0_wearDown_36 rfl 0 rfl ?_
          refine kw_get X inX0 0 rfl rfl 0 (by decide) rfl gw_95 rfl dX0_wearDown_37 ?_
          refine kw_getN X inX5 1 rfl rfl 1 (by decide) rfl nw_4 rfl dX0_wearDown_40 ?_
          refine kw_iload X dX0_wearDown_43 4 rfl ?_
          refine kw_vp X (r := .int (f_X2_at 60 w26 v4_25)) (As := [.int v4_25]) (st := []) (c_X2_at l D cI cC cR h4 h5 60 (by decide) w26 v4_25 (f_X2_at 60 w26 v4_25) rfl) vl_X0_72 yv_X2_at ⟨Nat.le_of_ble_eq_true rfl, Nat.le_of_ble_eq_true rfl⟩ ⟨rfl, rfl⟩ ⟨Nat.zero_le _, Nat.zero_le _⟩ 4 rfl rfl [4, 5] rfl rfl rfl rfl (Nat.le_of_ble_eq_true rfl) dX0_wearDown_45 ?_
          refine kw_istore (lo' := [(0, .ref h0), (1, .int p1), (2, .int p2), (3, .int v3_24), (4, .int v4_25), (5, .int (f_X2_at 60 w26 v4_25))]) X dX0_wearDown_48 (by decide) [1, 2, 3, 4, 5, 0] rfl ?_
          refine kw_iload X dX0_wearDown_50 5 rfl ?_
          refine kw_iload_n X dX0_wearDown_52 rfl 1 rfl ?_
          refine kw_iload_n X dX0_wearDown_53 rfl 2 rfl ?_
          refine kw_snp X (r := .int (f_X6_wornBy (f_X2_at 60 w26 v4_25) p1 p2)) (As := [.int (f_X2_at 60 w26 v4_25), .int p1, .int p2]) (st := []) (c_X6_wornBy l D cI cC cR  (f_X2_at 60 w26 v4_25) p1 p2 (f_X6_wornBy (f_X2_at 60 w26 v4_25) p1 p2) rfl) nw_29 vn_X0_135 yv_X6_wornBy ⟨Nat.le_of_ble_eq_true rfl, Nat.le_of_ble_eq_true rfl⟩ ⟨rfl, rfl⟩ ⟨Nat.zero_le _, Nat.zero_le _⟩ [] rfl rfl rfl rfl (Nat.le_of_ble_eq_true rfl) dX0_wearDown_54 ?_
          refine kw_istore (lo' := [(0, .ref h0), (1, .int p1), (2, .int p2), (3, .int v3_24), (4, .int v4_25), (5, .int (f_X2_at 60 w26 v4_25)), (6, .int (f_X6_wornBy (f_X2_at 60 w26 v4_25) p1 p2))]) X dX0_wearDown_57 (by decide) [1, 2, 3, 4, 5, 6, 0] rfl ?_
          refine kw_aload_n X dX0_wearDown_59 rfl 0 rfl ?_
          refine kw_get X inX0 0 rfl rfl 0 (by decide) rfl gw_95 rfl dX0_wearDown_60 ?_
          refine kw_getN X inX5 1 rfl rfl 1 (by decide) rfl nw_4 rfl dX0_wearDown_63 ?_
          refine kw_iload X dX0_wearDown_66 4 rfl ?_
          refine kw_iload X dX0_wearDown_68 6 rfl ?_
          refine kw_vev X (As := [.int v4_25, .int (f_X6_wornBy (f_X2_at 60 w26 v4_25) p1 p2)]) (st := []) (ws' := wX0 cI h0 h1 h2 h3 h4 h5 h6 h7 h8 h9 h10 h11 h12 h13 h14 h15 h16 h17 h18 h19 sp (f_X2_put 60 w26 v4_25 (f_X6_wornBy (f_X2_at 60 w26 v4_25) p1 p2)) le ta num rooms purses showers homes paid hours house spent loans surges rate) E (c_X2_put l D cI cC cR h4 h5 60 (by decide) w26 v4_25 (f_X6_wornBy (f_X2_at 60 w26 v4_25) p1 p2) (f_X2_put 60 w26 v4_25 (f_X6_wornBy (f_X2_at 60 w26 v4_25) p1 p2)) rfl) vl_X0_46 yv_X2_put ⟨Nat.le_of_ble_eq_true rfl, Nat.le_of_ble_eq_true rfl⟩ ⟨rfl, rfl⟩ ⟨Nat.zero_le _, Nat.zero_le _⟩ 4 rfl rfl [4, 5] rfl rfl rfl rfl (Nat.le_of_ble_eq_true rfl) dX0_wearDown_70 [h4, h5] rfl rfl rfl ?_
          refine kw_iload X dX0_wearDown_73 5 rfl ?_
          refine kw_bipush X dX0_wearDown_75 cb_32 ?_
          refine kw_icmp_ge X 90 dX0_wearDown_77 (by decide) (fun q34 => ?_) (fun q34 => ?_)
          · replace hF := (if_neg q34).symm.trans hF
            refine kw_loc (lo' := [(0, .ref h0), (1, .int p1), (2, .int p2), (3, .int v3_24), (4, .int v4_25)]) [0, 1, 2, 3, 4] rfl ?_
            obtain ⟨rfl, rfl⟩ := ti2 hF
            exact J
          · replace hF := (if_pos q34).symm.trans hF
            refine kw_iload X dX0_wearDown_80 6 rfl ?_
            refine kw_bipush X dX0_wearDown_82 cb_32 ?_
            refine kw_icmp_lt X 90 dX0_wearDown_84 (by decide) (fun q35 => ?_) (fun q35 => ?_)
            · replace hF := (if_pos q35).symm.trans hF
              refine kw_loc (lo' := [(0, .ref h0), (1, .int p1), (2, .int p2), (3, .int v3_24), (4, .int v4_25)]) [0, 1, 2, 3, 4] rfl ?_
              obtain ⟨rfl, rfl⟩ := ti2 hF
              exact J
            · replace hF := (if_neg q35).symm.trans hF
              refine kw_iinc (lo' := [(0, .ref h0), (1, .int p1), (2, .int p2), (3, .int (v3_24 + 1)), (4, .int v4_25), (5, .int (f_X2_at 60 w26 v4_25)), (6, .int (f_X6_wornBy (f_X2_at 60 w26 v4_25) p1 p2))]) X dX0_wearDown_87 3 rfl (congrArg (fun w => v3_24 + w) ci_1) (by decide) [1, 2, 3, 0, 4, 5, 6] rfl ?_
              refine kw_loc (lo' := [(0, .ref h0), (1, .int p1), (2, .int p2), (3, .int (v3_24 + 1)), (4, .int v4_25)]) [0, 1, 2, 3, 4] rfl ?_
              obtain ⟨rfl, rfl⟩ := ti2 hF
              exact J
  exact hL5 Z _ _ _ hx
-- X0_surge
def f_X0_surge_L12 (Z : Nat) (we : Nat → Int32) (num : Int32) (homes : Nat → Int32) : Nat → Int32 → Int32 → Int32 → (Nat → Int32) → (Nat → Int32) → (Nat → Int32) → (Nat → Int32) → Option (Int32 × Int32 × (Nat → Int32) × (Nat → Int32) × (Nat → Int32) × (Nat → Int32))
  | 0, _, _, _, _, _, _, _ => none
  | F + 1, v1_62, w63, w64, w65, w66, w67, w68 => (if v1_62 < 12 then (ob1 (f_X5_bestAt Z w65 we num (f_X2_at 12 homes v1_62)) (fun (b70 : Int32) => (pl6 (if b70 = (-9) then (w63, w64, w65, w66, w67, w68) else (if (f_X0_wouldBorrow w67 w68 v1_62) = 0 then (w63, w64, w65, w66, w67, w68) else (pl6 (f_X0_handOut w65 w66 w67 w68 w63 w64 v1_62 b70) (fun (m87 : Nat → Int32) (m88 : Nat → Int32) (m89 : Nat → Int32) (m90 : Nat → Int32) (b91 : Int32) (b92 : Int32) => (b91, b92, m87, m88, m89, m90))))) (fun (w79 : Int32) (w80 : Int32) (w81 : Nat → Int32) (w82 : Nat → Int32) (w83 : Nat → Int32) (w84 : Nat → Int32) => (f_X0_surge_L12 Z we num homes F (v1_62 + 1) w79 w80 w81 w82 w83 w84))))) else (some (w63, w64, w65, w66, w67, w68)))
def f_X0_surge (Z : Nat) (sp : Nat → Int32) (we : Nat → Int32) (le : Nat → Int32) (ta : Nat → Int32) (num : Int32) (purses : Nat → Int32) (homes : Nat → Int32) (house : Int32) (loans : Int32) (surges : Int32) : Option ((Nat → Int32) × (Nat → Int32) × (Nat → Int32) × (Nat → Int32) × Int32 × Int32 × Int32) :=
  (ob6 (f_X0_surge_L12 Z we num homes Z 0 house loans sp le ta purses) (fun (e56 : Int32) (e57 : Int32) (w58 : Nat → Int32) (w59 : Nat → Int32) (w60 : Nat → Int32) (w61 : Nat → Int32) => (some (w58, w59, w60, w61, e56, e57, (surges + 1)))))
abbrev rm_X0_surge : Room := { frames := 3, cells := 0, slots := 0, locals := 68 }
set_option maxHeartbeats 4000000 in
set_option maxRecDepth 100000 in
theorem c_X0_surge (l : Launch) (D : va_G) (cI cC cR : ClassId) (h0 h1 h2 h3 h4 h5 h6 h7 h8 h9 h10 h11 h12 h13 h14 h15 h16 h17 h18 h19 : Nat) (sp : Nat → Int32) (we : Nat → Int32) (le : Nat → Int32) (ta : Nat → Int32) (num : Int32) (rooms : Nat → Int32) (purses : Nat → Int32) (showers : Nat → Int32) (homes : Nat → Int32) (paid : Nat → Int32) (hours : Int32) (house : Int32) (spent : Int32) (loans : Int32) (surges : Int32) (rate : Int32) (Z : Nat) (sp' : Nat → Int32) (le' : Nat → Int32) (ta' : Nat → Int32) (purses' : Nat → Int32) (house' : Int32) (loans' : Int32) (surges' : Int32) (hF : f_X0_surge Z sp we le ta num purses homes house loans surges = some (sp', le', ta', purses', house', loans', surges')) : MEq l yX0_surge cX0_surge 3 none rm_X0_surge D (TY cI cC cR) [.ref h0] (wX0 cI h0 h1 h2 h3 h4 h5 h6 h7 h8 h9 h10 h11 h12 h13 h14 h15 h16 h17 h18 h19 sp we le ta num rooms purses showers homes paid hours house spent loans surges rate) (wX0 cI h0 h1 h2 h3 h4 h5 h6 h7 h8 h9 h10 h11 h12 h13 h14 h15 h16 h17 h18 h19 sp' we le' ta' num rooms purses' showers homes paid hours house' spent loans' surges' rate) none := by
  refine me_v pn_X0 (Nat.le_of_ble_eq_true rfl) rfl (fun Γ X E hret => ?_)
  unfold f_X0_surge at hF
  refine kw_aload_n X dX0_surge_0 rfl 0 rfl ?_
  refine kw_dup X dX0_surge_1 rfl ?_
  refine kw_get X inX0 0 rfl rfl 10 (by decide) rfl gw_115 rfl dX0_surge_2 ?_
  refine kw_iconst X dX0_surge_5 ci_1 ?_
  refine kw_iadd X dX0_surge_6 ?_
  refine kw_put X E inX0 tyX0 tyX0_ok nmX0 0 rfl rfl 10 (by decide) rfl gw_115 rfl pfd_I (vp_nar_int _) rfl (Nat.le_of_ble_eq_true rfl) (ws' := wX0 cI h0 h1 h2 h3 h4 h5 h6 h7 h8 h9 h10 h11 h12 h13 h14 h15 h16 h17 h18 h19 sp we le ta num rooms purses showers homes paid hours house spent loans (surges + 1) rate) rfl dX0_surge_7 ?_
  refine kw_iconst X dX0_surge_10 ci_0 ?_
  refine kw_istore_n (lo' := [(0, .ref h0), (1, .int 0)]) X dX0_surge_11 rfl (by decide) [1, 0] rfl ?_
  obtain ⟨e56, e57, w58, w59, w60, w61, hx, hF⟩ := ob6_ex hF
  have J : KW Γ 0 0 (wX0 cI h0 h1 h2 h3 h4 h5 h6 h7 h8 h9 h10 h11 h12 h13 h14 h15 h16 h17 h18 h19 w58 we w59 w60 num rooms w61 showers homes paid hours e56 spent e57 (surges + 1) rate) [] 60 [] := by
    obtain ⟨rfl, rfl, rfl, rfl, rfl, rfl, rfl⟩ := si7 hF
    exact hret _ _ dX0_surge_60
  have hL12 : ∀ (F : Nat) (v1_62 : Int32) (w63 : Int32) (w64 : Int32) (w65 : Nat → Int32) (w66 : Nat → Int32) (w67 : Nat → Int32) (w68 : Nat → Int32), f_X0_surge_L12 Z we num homes F v1_62 w63 w64 w65 w66 w67 w68 = some (e56, e57, w58, w59, w60, w61) → KW Γ 0 0 (wX0 cI h0 h1 h2 h3 h4 h5 h6 h7 h8 h9 h10 h11 h12 h13 h14 h15 h16 h17 h18 h19 w65 we w66 w67 num rooms w68 showers homes paid hours w63 spent w64 (surges + 1) rate) [(0, .ref h0), (1, .int v1_62)] 12 [] := by
    intro F
    induction F with
    | zero => intro v1_62 w63 w64 w65 w66 w67 w68 hF; exact none_some hF
    | succ F ih12 =>
      intro v1_62 w63 w64 w65 w66 w67 w68 hF
      rw [f_X0_surge_L12] at hF
      refine kw_iload_n X dX0_surge_12 rfl 1 rfl ?_
      refine kw_bipush X dX0_surge_13 cb_12 ?_
      refine kw_icmp_ge X 60 dX0_surge_15 (by decide) (fun q69 => ?_) (fun q69 => ?_)
      · replace hF := (if_neg q69).symm.trans hF
        refine kw_loc (lo' := []) [] rfl ?_
        obtain ⟨rfl, rfl, rfl, rfl, rfl, rfl⟩ := si6 hF
        exact J
      · replace hF := (if_pos q69).symm.trans hF
        refine kw_aload_n X dX0_surge_18 rfl 0 rfl ?_
        refine kw_get X inX0 0 rfl rfl 0 (by decide) rfl gw_95 rfl dX0_surge_19 ?_
        refine kw_aload_n X dX0_surge_22 rfl 0 rfl ?_
        refine kw_get X inX0 0 rfl rfl 4 (by decide) rfl gw_103 rfl dX0_surge_23 ?_
        refine kw_iload_n X dX0_surge_26 rfl 1 rfl ?_
        refine kw_vp X (r := .int (f_X2_at 12 homes v1_62)) (As := [.int v1_62]) (st := [.ref h1]) (c_X2_at l D cI cC cR h16 h17 12 (by decide) homes v1_62 (f_X2_at 12 homes v1_62) rfl) vl_X0_72 yv_X2_at ⟨Nat.le_of_ble_eq_true rfl, Nat.le_of_ble_eq_true rfl⟩ ⟨rfl, rfl⟩ ⟨Nat.zero_le _, Nat.zero_le _⟩ 16 rfl rfl [16, 17] rfl rfl rfl rfl (Nat.le_of_ble_eq_true rfl) dX0_surge_27 ?_
        obtain ⟨b70, hx70, hF⟩ := ob1_ex hF
        refine kw_vp X (r := .int b70) (As := [.int (f_X2_at 12 homes v1_62)]) (st := []) (c_X5_bestAt l D cI cC cR h1 h2 h3 h4 h5 h6 h7 h8 h9 w65 we w66 w67 num (f_X2_at 12 homes v1_62) Z b70 hx70) vl_X0_107 yv_X5_bestAt ⟨Nat.le_of_ble_eq_true rfl, Nat.le_of_ble_eq_true rfl⟩ ⟨rfl, rfl⟩ ⟨Nat.zero_le _, Nat.zero_le _⟩ 1 rfl rfl [1, 2, 3, 4, 5, 6, 7, 8, 9] rfl rfl rfl rfl (Nat.le_of_ble_eq_true rfl) dX0_surge_30 ?_
        refine kw_istore_n (lo' := [(0, .ref h0), (1, .int v1_62), (2, .int b70)]) X dX0_surge_33 rfl (by decide) [1, 2, 0] rfl ?_
        refine kw_iload_n X dX0_surge_34 rfl 2 rfl ?_
        refine kw_bipush X dX0_surge_35 cb_m9 ?_
        obtain ⟨w79, w80, w81, w82, w83, w84, hx85, hF⟩ := pl6_ex hF
        have J : KW Γ 0 0 (wX0 cI h0 h1 h2 h3 h4 h5 h6 h7 h8 h9 h10 h11 h12 h13 h14 h15 h16 h17 h18 h19 w81 we w82 w83 num rooms w84 showers homes paid hours w79 spent w80 (surges + 1) rate) [(0, .ref h0), (1, .int v1_62)] 54 [] := by
          refine kw_iinc (lo' := [(0, .ref h0), (1, .int (v1_62 + 1))]) X dX0_surge_54 1 rfl (congrArg (fun w => v1_62 + w) ci_1) (by decide) [1, 0] rfl ?_
          refine kw_goto X 12 dX0_surge_57 (by decide) ?_
          exact ih12 _ _ _ _ _ _ _ hF
        replace hF := hx85
        refine kw_icmp_eq X 54 dX0_surge_37 (by decide) (fun q71 => ?_) (fun q71 => ?_)
        · replace hF := (if_pos q71).symm.trans hF
          refine kw_loc (lo' := [(0, .ref h0), (1, .int v1_62)]) [0, 1] rfl ?_
          obtain ⟨rfl, rfl, rfl, rfl, rfl, rfl⟩ := ti6 hF
          exact J
        · replace hF := (if_neg q71).symm.trans hF
          refine kw_aload_n X dX0_surge_40 rfl 0 rfl ?_
          refine kw_iload_n X dX0_surge_41 rfl 1 rfl ?_
          refine kw_ap X (r := .int (f_X0_wouldBorrow w67 w68 v1_62)) (As := [.int v1_62]) (st := []) (c_X0_wouldBorrow l D cI cC cR h0 h1 h2 h3 h4 h5 h6 h7 h8 h9 h10 h11 h12 h13 h14 h15 h16 h17 h18 h19 w65 we w66 w67 num rooms w68 showers homes paid hours w63 spent w64 (surges + 1) rate v1_62 (f_X0_wouldBorrow w67 w68 v1_62) rfl) vl_X0_103 yv_X0_wouldBorrow ⟨Nat.le_of_ble_eq_true rfl, Nat.le_of_ble_eq_true rfl⟩ ⟨rfl, rfl⟩ ⟨Nat.zero_le _, Nat.zero_le _⟩ 0 rfl rfl rfl rfl (Nat.le_of_ble_eq_true rfl) dX0_surge_42 ?_
          refine kw_if_eq X 54 dX0_surge_45 (by decide) (fun q86 => ?_) (fun q86 => ?_)
          · replace hF := (if_pos q86).symm.trans hF
            refine kw_loc (lo' := [(0, .ref h0), (1, .int v1_62)]) [0, 1] rfl ?_
            obtain ⟨rfl, rfl, rfl, rfl, rfl, rfl⟩ := ti6 hF
            exact J
          · replace hF := (if_neg q86).symm.trans hF
            refine kw_aload_n X dX0_surge_48 rfl 0 rfl ?_
            refine kw_iload_n X dX0_surge_49 rfl 1 rfl ?_
            refine kw_iload_n X dX0_surge_50 rfl 2 rfl ?_
            obtain ⟨m87, m88, m89, m90, b91, b92, hx92, hF⟩ := pl6_ex hF
            refine kw_aev X (As := [.int v1_62, .int b70]) (st := []) E (c_X0_handOut l D cI cC cR h0 h1 h2 h3 h4 h5 h6 h7 h8 h9 h10 h11 h12 h13 h14 h15 h16 h17 h18 h19 w65 we w66 w67 num rooms w68 showers homes paid hours w63 spent w64 (surges + 1) rate v1_62 b70 m87 m88 m89 m90 b91 b92 hx92) vl_X0_110 yv_X0_handOut ⟨Nat.le_of_ble_eq_true rfl, Nat.le_of_ble_eq_true rfl⟩ ⟨rfl, rfl⟩ ⟨Nat.zero_le _, Nat.zero_le _⟩ 0 rfl rfl rfl rfl (Nat.le_of_ble_eq_true rfl) dX0_surge_51 ?_
            refine kw_loc (lo' := [(0, .ref h0), (1, .int v1_62)]) [0, 1] rfl ?_
            obtain ⟨rfl, rfl, rfl, rfl, rfl, rfl⟩ := ti6 hF
            exact J
  exact hL12 Z _ _ _ _ _ _ _ hx
-- X0_passHour
def f_X0_passHour (Z : Nat) (sp : Nat → Int32) (we : Nat → Int32) (le : Nat → Int32) (ta : Nat → Int32) (num : Int32) (purses : Nat → Int32) (showers : Nat → Int32) (homes : Nat → Int32) (hours : Int32) (house : Int32) (loans : Int32) (surges : Int32) (p1 : Int32) (p2 : Int32) : Option (Int32 × (Nat → Int32) × (Nat → Int32) × (Nat → Int32) × (Nat → Int32) × (Nat → Int32) × (Nat → Int32) × Int32 × Int32 × Int32 × Int32) :=
  (ob1 (if p1 < 2 then (some showers) else (ob1 (f_X0_countShower Z ta showers) (fun (m38 : Nat → Int32) => (some m38)))) (fun (w4 : Nat → Int32) => (ob2 (f_X0_wearDown Z sp we num p1 p2) (fun (b6 : Int32) (m7 : Nat → Int32) => (ob7 (if p1 < 5 then (some (house, loans, surges, sp, le, ta, purses)) else (ob7 (f_X0_surge Z sp m7 le ta num purses homes house loans surges) (fun (m31 : Nat → Int32) (m32 : Nat → Int32) (m33 : Nat → Int32) (m34 : Nat → Int32) (b35 : Int32) (b36 : Int32) (b37 : Int32) => (some (b35, b36, b37, m31, m32, m33, m34))))) (fun (w23 : Int32) (w24 : Int32) (w25 : Int32) (w26 : Nat → Int32) (w27 : Nat → Int32) (w28 : Nat → Int32) (w29 : Nat → Int32) => (some (b6, w26, m7, w27, w28, w29, w4, (hours + 1), w23, w24, w25))))))))
abbrev rm_X0_passHour : Room := { frames := 4, cells := 0, slots := 0, locals := 90 }
set_option maxHeartbeats 4000000 in
set_option maxRecDepth 100000 in
theorem c_X0_passHour (l : Launch) (D : va_G) (cI cC cR : ClassId) (h0 h1 h2 h3 h4 h5 h6 h7 h8 h9 h10 h11 h12 h13 h14 h15 h16 h17 h18 h19 : Nat) (sp : Nat → Int32) (we : Nat → Int32) (le : Nat → Int32) (ta : Nat → Int32) (num : Int32) (rooms : Nat → Int32) (purses : Nat → Int32) (showers : Nat → Int32) (homes : Nat → Int32) (paid : Nat → Int32) (hours : Int32) (house : Int32) (spent : Int32) (loans : Int32) (surges : Int32) (rate : Int32) (p1 : Int32) (p2 : Int32) (Z : Nat) (r : Int32) (sp' : Nat → Int32) (we' : Nat → Int32) (le' : Nat → Int32) (ta' : Nat → Int32) (purses' : Nat → Int32) (showers' : Nat → Int32) (hours' : Int32) (house' : Int32) (loans' : Int32) (surges' : Int32) (hF : f_X0_passHour Z sp we le ta num purses showers homes hours house loans surges p1 p2 = some (r, sp', we', le', ta', purses', showers', hours', house', loans', surges')) : MEq l yX0_passHour cX0_passHour 4 (some .int) rm_X0_passHour D (TY cI cC cR) [.ref h0, .int p1, .int p2] (wX0 cI h0 h1 h2 h3 h4 h5 h6 h7 h8 h9 h10 h11 h12 h13 h14 h15 h16 h17 h18 h19 sp we le ta num rooms purses showers homes paid hours house spent loans surges rate) (wX0 cI h0 h1 h2 h3 h4 h5 h6 h7 h8 h9 h10 h11 h12 h13 h14 h15 h16 h17 h18 h19 sp' we' le' ta' num rooms purses' showers' homes paid hours' house' spent loans' surges' rate) (some (.int r)) := by
  refine me_e pn_X0 (Nat.le_of_ble_eq_true rfl) rfl (fun Γ X E hret => ?_)
  unfold f_X0_passHour at hF
  refine kw_aload_n X dX0_passHour_0 rfl 0 rfl ?_
  refine kw_dup X dX0_passHour_1 rfl ?_
  refine kw_get X inX0 0 rfl rfl 6 (by decide) rfl gw_107 rfl dX0_passHour_2 ?_
  refine kw_iconst X dX0_passHour_5 ci_1 ?_
  refine kw_iadd X dX0_passHour_6 ?_
  refine kw_put X E inX0 tyX0 tyX0_ok nmX0 0 rfl rfl 6 (by decide) rfl gw_107 rfl pfd_I (vp_nar_int _) rfl (Nat.le_of_ble_eq_true rfl) (ws' := wX0 cI h0 h1 h2 h3 h4 h5 h6 h7 h8 h9 h10 h11 h12 h13 h14 h15 h16 h17 h18 h19 sp we le ta num rooms purses showers homes paid (hours + 1) house spent loans surges rate) rfl dX0_passHour_7 ?_
  refine kw_iload_n X dX0_passHour_10 rfl 1 rfl ?_
  refine kw_iconst X dX0_passHour_11 ci_2 ?_
  obtain ⟨w4, hx5, hF⟩ := ob1_ex hF
  have J : KW Γ 0 0 (wX0 cI h0 h1 h2 h3 h4 h5 h6 h7 h8 h9 h10 h11 h12 h13 h14 h15 h16 h17 h18 h19 sp we le ta num rooms purses w4 homes paid (hours + 1) house spent loans surges rate) [(0, .ref h0), (1, .int p1), (2, .int p2)] 19 [] := by
    refine kw_aload_n X dX0_passHour_19 rfl 0 rfl ?_
    refine kw_iload_n X dX0_passHour_20 rfl 1 rfl ?_
    refine kw_iload_n X dX0_passHour_21 rfl 2 rfl ?_
    obtain ⟨b6, m7, hx7, hF⟩ := ob2_ex hF
    refine kw_aei X (r := .int b6) (As := [.int p1, .int p2]) (st := []) E (c_X0_wearDown l D cI cC cR h0 h1 h2 h3 h4 h5 h6 h7 h8 h9 h10 h11 h12 h13 h14 h15 h16 h17 h18 h19 sp we le ta num rooms purses w4 homes paid (hours + 1) house spent loans surges rate p1 p2 Z b6 m7 hx7) vl_X0_146 yv_X0_wearDown ⟨Nat.le_of_ble_eq_true rfl, Nat.le_of_ble_eq_true rfl⟩ ⟨rfl, rfl⟩ ⟨Nat.zero_le _, Nat.zero_le _⟩ 0 rfl rfl rfl rfl (Nat.le_of_ble_eq_true rfl) dX0_passHour_22 ?_
    refine kw_istore_n (lo' := [(0, .ref h0), (1, .int p1), (2, .int p2), (3, .int b6)]) X dX0_passHour_25 rfl (by decide) [1, 2, 3, 0] rfl ?_
    refine kw_iload_n X dX0_passHour_26 rfl 1 rfl ?_
    refine kw_iconst X dX0_passHour_27 ci_5 ?_
    obtain ⟨w23, w24, w25, w26, w27, w28, w29, hx30, hF⟩ := ob7_ex hF
    have J : KW Γ 0 0 (wX0 cI h0 h1 h2 h3 h4 h5 h6 h7 h8 h9 h10 h11 h12 h13 h14 h15 h16 h17 h18 h19 w26 m7 w27 w28 num rooms w29 w4 homes paid (hours + 1) w23 spent w24 w25 rate) [(3, .int b6)] 35 [] := by
      refine kw_iload_n X dX0_passHour_35 rfl 0 rfl ?_
      obtain ⟨rfl, rfl, rfl, rfl, rfl, rfl, rfl, rfl, rfl, rfl, rfl⟩ := si11 hF
      exact hret _ _ (vp_nar_int _) dX0_passHour_36
    replace hF := hx30
    refine kw_icmp_lt X 35 dX0_passHour_28 (by decide) (fun q8 => ?_) (fun q8 => ?_)
    · replace hF := (if_pos q8).symm.trans hF
      refine kw_loc (lo' := [(3, .int b6)]) [3] rfl ?_
      obtain ⟨rfl, rfl, rfl, rfl, rfl, rfl, rfl⟩ := si7 hF
      exact J
    · replace hF := (if_neg q8).symm.trans hF
      refine kw_aload_n X dX0_passHour_31 rfl 0 rfl ?_
      obtain ⟨m31, m32, m33, m34, b35, b36, b37, hx37, hF⟩ := ob7_ex hF
      refine kw_aev X (As := []) (st := []) E (c_X0_surge l D cI cC cR h0 h1 h2 h3 h4 h5 h6 h7 h8 h9 h10 h11 h12 h13 h14 h15 h16 h17 h18 h19 sp m7 le ta num rooms purses w4 homes paid (hours + 1) house spent loans surges rate Z m31 m32 m33 m34 b35 b36 b37 hx37) vl_X0_149 yv_X0_surge ⟨Nat.le_of_ble_eq_true rfl, Nat.le_of_ble_eq_true rfl⟩ ⟨rfl, rfl⟩ ⟨Nat.zero_le _, Nat.zero_le _⟩ 0 rfl rfl rfl rfl (Nat.le_of_ble_eq_true rfl) dX0_passHour_32 ?_
      refine kw_loc (lo' := [(3, .int b6)]) [3] rfl ?_
      obtain ⟨rfl, rfl, rfl, rfl, rfl, rfl, rfl⟩ := si7 hF
      exact J
  replace hF := hx5
  refine kw_icmp_lt X 19 dX0_passHour_12 (by decide) (fun q1 => ?_) (fun q1 => ?_)
  · replace hF := (if_pos q1).symm.trans hF
    obtain rfl := si1 hF
    exact J
  · replace hF := (if_neg q1).symm.trans hF
    refine kw_aload_n X dX0_passHour_15 rfl 0 rfl ?_
    obtain ⟨m38, hx38, hF⟩ := ob1_ex hF
    refine kw_aev X (As := []) (st := []) E (c_X0_countShower l D cI cC cR h0 h1 h2 h3 h4 h5 h6 h7 h8 h9 h10 h11 h12 h13 h14 h15 h16 h17 h18 h19 sp we le ta num rooms purses showers homes paid (hours + 1) house spent loans surges rate Z m38 hx38) vl_X0_143 yv_X0_countShower ⟨Nat.le_of_ble_eq_true rfl, Nat.le_of_ble_eq_true rfl⟩ ⟨rfl, rfl⟩ ⟨Nat.zero_le _, Nat.zero_le _⟩ 0 rfl rfl rfl rfl (Nat.le_of_ble_eq_true rfl) dX0_passHour_16 ?_
    obtain rfl := si1 hF
    exact J
-- X0_lackAt
def f_X0_lackAt_L4 (ta : Nat → Int32) (purses : Nat → Int32) (homes : Nat → Int32) (p1 : Int32) : Nat → Int32 → Int32 → Option (Int32)
  | 0, _, _ => none
  | F + 1, v2_17, v3_18 => (if v3_18 < 12 then (pl1 (if (f_X2_at 12 homes v3_18) = p1 then (if (f_X0_wouldBorrow ta purses v3_18) = 0 then v2_17 else (v2_17 + 1)) else v2_17) (fun (v2_22 : Int32) => (f_X0_lackAt_L4 ta purses homes p1 F v2_22 (v3_18 + 1)))) else (some (v2_17)))
def f_X0_lackAt (Z : Nat) (sp : Nat → Int32) (we : Nat → Int32) (ta : Nat → Int32) (num : Int32) (purses : Nat → Int32) (homes : Nat → Int32) (p1 : Int32) : Option (Int32) :=
  (ob1 (f_X0_lackAt_L4 ta purses homes p1 Z 0 0) (fun (e15 : Int32) => (ob1 (f_X5_wholeAt Z sp we ta num p1) (fun (b16 : Int32) => (some (e15 - b16))))))
abbrev rm_X0_lackAt : Room := { frames := 4, cells := 0, slots := 0, locals := 86 }
set_option maxHeartbeats 4000000 in
set_option maxRecDepth 100000 in
theorem c_X0_lackAt (l : Launch) (D : va_G) (cI cC cR : ClassId) (h0 h1 h2 h3 h4 h5 h6 h7 h8 h9 h10 h11 h12 h13 h14 h15 h16 h17 h18 h19 : Nat) (sp : Nat → Int32) (we : Nat → Int32) (le : Nat → Int32) (ta : Nat → Int32) (num : Int32) (rooms : Nat → Int32) (purses : Nat → Int32) (showers : Nat → Int32) (homes : Nat → Int32) (paid : Nat → Int32) (hours : Int32) (house : Int32) (spent : Int32) (loans : Int32) (surges : Int32) (rate : Int32) (p1 : Int32) (Z : Nat) (r : Int32) (hF : f_X0_lackAt Z sp we ta num purses homes p1 = some r) : MPi l yX0_lackAt cX0_lackAt 4 (some .int) rm_X0_lackAt D (TY cI cC cR) [.ref h0, .int p1] (wX0 cI h0 h1 h2 h3 h4 h5 h6 h7 h8 h9 h10 h11 h12 h13 h14 h15 h16 h17 h18 h19 sp we le ta num rooms purses showers homes paid hours house spent loans surges rate) (.int r) := by
  refine me_p pn_X0 (Nat.le_of_ble_eq_true rfl) rfl (fun Γ X hret => ?_)
  unfold f_X0_lackAt at hF
  refine kw_iconst X dX0_lackAt_0 ci_0 ?_
  refine kw_istore_n (lo' := [(0, .ref h0), (1, .int p1), (2, .int 0)]) X dX0_lackAt_1 rfl (by decide) [1, 2, 0] rfl ?_
  refine kw_iconst X dX0_lackAt_2 ci_0 ?_
  refine kw_istore_n (lo' := [(0, .ref h0), (1, .int p1), (2, .int 0), (3, .int 0)]) X dX0_lackAt_3 rfl (by decide) [1, 2, 3, 0] rfl ?_
  obtain ⟨e15, hx, hF⟩ := ob1_ex hF
  have J : KW Γ 0 0 (wX0 cI h0 h1 h2 h3 h4 h5 h6 h7 h8 h9 h10 h11 h12 h13 h14 h15 h16 h17 h18 h19 sp we le ta num rooms purses showers homes paid hours house spent loans surges rate) [(0, .ref h0), (1, .int p1), (2, .int e15)] 39 [] := by
    refine kw_iload_n X dX0_lackAt_39 rfl 2 rfl ?_
    refine kw_aload_n X dX0_lackAt_40 rfl 0 rfl ?_
    refine kw_get X inX0 0 rfl rfl 0 (by decide) rfl gw_95 rfl dX0_lackAt_41 ?_
    refine kw_iload_n X dX0_lackAt_44 rfl 1 rfl ?_
    obtain ⟨b16, hx16, hF⟩ := ob1_ex hF
    refine kw_vp X (r := .int b16) (As := [.int p1]) (st := [.int e15]) (c_X5_wholeAt l D cI cC cR h1 h2 h3 h4 h5 h6 h7 h8 h9 sp we le ta num p1 Z b16 hx16) vl_X0_158 yv_X5_wholeAt ⟨Nat.le_of_ble_eq_true rfl, Nat.le_of_ble_eq_true rfl⟩ ⟨rfl, rfl⟩ ⟨Nat.zero_le _, Nat.zero_le _⟩ 1 rfl rfl [1, 2, 3, 4, 5, 6, 7, 8, 9] rfl rfl rfl rfl (Nat.le_of_ble_eq_true rfl) dX0_lackAt_45 ?_
    refine kw_isub X dX0_lackAt_48 ?_
    obtain rfl := si1 hF
    exact hret _ _ _ (vp_nar_int _) dX0_lackAt_49
  have hL4 : ∀ (F : Nat) (v2_17 : Int32) (v3_18 : Int32), f_X0_lackAt_L4 ta purses homes p1 F v2_17 v3_18 = some (e15) → KW Γ 0 0 (wX0 cI h0 h1 h2 h3 h4 h5 h6 h7 h8 h9 h10 h11 h12 h13 h14 h15 h16 h17 h18 h19 sp we le ta num rooms purses showers homes paid hours house spent loans surges rate) [(0, .ref h0), (1, .int p1), (2, .int v2_17), (3, .int v3_18)] 4 [] := by
    intro F
    induction F with
    | zero => intro v2_17 v3_18 hF; exact none_some hF
    | succ F ih4 =>
      intro v2_17 v3_18 hF
      rw [f_X0_lackAt_L4] at hF
      refine kw_iload_n X dX0_lackAt_4 rfl 3 rfl ?_
      refine kw_bipush X dX0_lackAt_5 cb_12 ?_
      refine kw_icmp_ge X 39 dX0_lackAt_7 (by decide) (fun q19 => ?_) (fun q19 => ?_)
      · replace hF := (if_neg q19).symm.trans hF
        refine kw_loc (lo' := [(0, .ref h0), (1, .int p1), (2, .int v2_17)]) [0, 1, 2] rfl ?_
        obtain rfl := si1 hF
        exact J
      · replace hF := (if_pos q19).symm.trans hF
        refine kw_aload_n X dX0_lackAt_10 rfl 0 rfl ?_
        refine kw_get X inX0 0 rfl rfl 4 (by decide) rfl gw_103 rfl dX0_lackAt_11 ?_
        refine kw_iload_n X dX0_lackAt_14 rfl 3 rfl ?_
        refine kw_vp X (r := .int (f_X2_at 12 homes v3_18)) (As := [.int v3_18]) (st := []) (c_X2_at l D cI cC cR h16 h17 12 (by decide) homes v3_18 (f_X2_at 12 homes v3_18) rfl) vl_X0_72 yv_X2_at ⟨Nat.le_of_ble_eq_true rfl, Nat.le_of_ble_eq_true rfl⟩ ⟨rfl, rfl⟩ ⟨Nat.zero_le _, Nat.zero_le _⟩ 16 rfl rfl [16, 17] rfl rfl rfl rfl (Nat.le_of_ble_eq_true rfl) dX0_lackAt_15 ?_
        refine kw_iload_n X dX0_lackAt_18 rfl 1 rfl ?_
        obtain ⟨v2_22, hx23, hF⟩ := pl1_ex hF
        have J : KW Γ 0 0 (wX0 cI h0 h1 h2 h3 h4 h5 h6 h7 h8 h9 h10 h11 h12 h13 h14 h15 h16 h17 h18 h19 sp we le ta num rooms purses showers homes paid hours house spent loans surges rate) [(0, .ref h0), (1, .int p1), (2, .int v2_22), (3, .int v3_18)] 33 [] := by
          refine kw_iinc (lo' := [(0, .ref h0), (1, .int p1), (2, .int v2_22), (3, .int (v3_18 + 1))]) X dX0_lackAt_33 3 rfl (congrArg (fun w => v3_18 + w) ci_1) (by decide) [1, 2, 3, 0] rfl ?_
          refine kw_goto X 4 dX0_lackAt_36 (by decide) ?_
          exact ih4 _ _ hF
        replace hF := hx23
        refine kw_icmp_ne X 33 dX0_lackAt_19 (by decide) (fun q20 => ?_) (fun q20 => ?_)
        · replace hF := (if_neg q20).symm.trans hF
          obtain rfl := ti1 hF
          exact J
        · replace hF := (if_pos q20).symm.trans hF
          refine kw_aload_n X dX0_lackAt_22 rfl 0 rfl ?_
          refine kw_iload_n X dX0_lackAt_23 rfl 3 rfl ?_
          refine kw_ap X (r := .int (f_X0_wouldBorrow ta purses v3_18)) (As := [.int v3_18]) (st := []) (c_X0_wouldBorrow l D cI cC cR h0 h1 h2 h3 h4 h5 h6 h7 h8 h9 h10 h11 h12 h13 h14 h15 h16 h17 h18 h19 sp we le ta num rooms purses showers homes paid hours house spent loans surges rate v3_18 (f_X0_wouldBorrow ta purses v3_18) rfl) vl_X0_103 yv_X0_wouldBorrow ⟨Nat.le_of_ble_eq_true rfl, Nat.le_of_ble_eq_true rfl⟩ ⟨rfl, rfl⟩ ⟨Nat.zero_le _, Nat.zero_le _⟩ 0 rfl rfl rfl rfl (Nat.le_of_ble_eq_true rfl) dX0_lackAt_24 ?_
          refine kw_if_eq X 33 dX0_lackAt_27 (by decide) (fun q24 => ?_) (fun q24 => ?_)
          · replace hF := (if_pos q24).symm.trans hF
            obtain rfl := ti1 hF
            exact J
          · replace hF := (if_neg q24).symm.trans hF
            refine kw_iinc (lo' := [(0, .ref h0), (1, .int p1), (2, .int (v2_17 + 1)), (3, .int v3_18)]) X dX0_lackAt_30 2 rfl (congrArg (fun w => v2_17 + w) ci_1) (by decide) [1, 2, 0, 3] rfl ?_
            obtain rfl := ti1 hF
            exact J
  exact hL4 Z _ _ hx
-- X0_loadingError
def f_X0_loadingError (ta : Nat → Int32) (p1 : Int32) (p2 : Int32) (p3 : Int32) : Int32 :=
  (if (f_X6_outside p1 0 1) = 0 then (if (f_X6_outside p2 0 7) = 0 then (if (f_X6_outside p3 1 10) = 0 then (if (f_X5_numberAt ta p2) < p3 then (-2) else (pl1 (if 10 < ((f_X5_numberAt ta (20 + p1)) + p3) then 0 else 1) (fun (x6 : Int32) => (if x6 = 0 then (-3) else 0)))) else (-1)) else (-1)) else (-1))
abbrev rm_X0_loadingError : Room := { frames := 2, cells := 0, slots := 0, locals := 42 }
set_option maxHeartbeats 4000000 in
set_option maxRecDepth 100000 in
theorem c_X0_loadingError (l : Launch) (D : va_G) (cI cC cR : ClassId) (h0 h1 h2 h3 h4 h5 h6 h7 h8 h9 h10 h11 h12 h13 h14 h15 h16 h17 h18 h19 : Nat) (sp : Nat → Int32) (we : Nat → Int32) (le : Nat → Int32) (ta : Nat → Int32) (num : Int32) (rooms : Nat → Int32) (purses : Nat → Int32) (showers : Nat → Int32) (homes : Nat → Int32) (paid : Nat → Int32) (hours : Int32) (house : Int32) (spent : Int32) (loans : Int32) (surges : Int32) (rate : Int32) (p1 : Int32) (p2 : Int32) (p3 : Int32) (r : Int32) (hF : f_X0_loadingError ta p1 p2 p3 = r) : MPi l yX0_loadingError cX0_loadingError 5 (some .int) rm_X0_loadingError D (TY cI cC cR) [.ref h0, .int p1, .int p2, .int p3] (wX0 cI h0 h1 h2 h3 h4 h5 h6 h7 h8 h9 h10 h11 h12 h13 h14 h15 h16 h17 h18 h19 sp we le ta num rooms purses showers homes paid hours house spent loans surges rate) (.int r) := by
  refine me_p pn_X0 (Nat.le_of_ble_eq_true rfl) rfl (fun Γ X hret => ?_)
  unfold f_X0_loadingError at hF
  refine kw_iload_n X dX0_loadingError_0 rfl 1 rfl ?_
  refine kw_iconst X dX0_loadingError_1 ci_0 ?_
  refine kw_iconst X dX0_loadingError_2 ci_1 ?_
  refine kw_snp X (r := .int (f_X6_outside p1 0 1)) (As := [.int p1, .int 0, .int 1]) (st := []) (c_X6_outside l D cI cC cR  p1 0 1 (f_X6_outside p1 0 1) rfl) nw_27 vn_X0_82 yv_X6_outside ⟨Nat.le_of_ble_eq_true rfl, Nat.le_of_ble_eq_true rfl⟩ ⟨rfl, rfl⟩ ⟨Nat.zero_le _, Nat.zero_le _⟩ [] rfl rfl rfl rfl (Nat.le_of_ble_eq_true rfl) dX0_loadingError_3 ?_
  refine kw_if_ne X 29 dX0_loadingError_6 (by decide) (fun q1 => ?_) (fun q1 => ?_)
  · replace hF := (if_neg q1).symm.trans hF
    refine kw_iconst X dX0_loadingError_29 ci_m1 ?_
    obtain rfl := ti1 hF
    exact hret _ _ _ (vp_nar_int _) dX0_loadingError_30
  · replace hF := (if_pos q1).symm.trans hF
    refine kw_iload_n X dX0_loadingError_9 rfl 2 rfl ?_
    refine kw_iconst X dX0_loadingError_10 ci_0 ?_
    refine kw_bipush X dX0_loadingError_11 cb_7 ?_
    refine kw_snp X (r := .int (f_X6_outside p2 0 7)) (As := [.int p2, .int 0, .int 7]) (st := []) (c_X6_outside l D cI cC cR  p2 0 7 (f_X6_outside p2 0 7) rfl) nw_27 vn_X0_82 yv_X6_outside ⟨Nat.le_of_ble_eq_true rfl, Nat.le_of_ble_eq_true rfl⟩ ⟨rfl, rfl⟩ ⟨Nat.zero_le _, Nat.zero_le _⟩ [] rfl rfl rfl rfl (Nat.le_of_ble_eq_true rfl) dX0_loadingError_13 ?_
    refine kw_if_ne X 29 dX0_loadingError_16 (by decide) (fun q2 => ?_) (fun q2 => ?_)
    · replace hF := (if_neg q2).symm.trans hF
      refine kw_iconst X dX0_loadingError_29 ci_m1 ?_
      obtain rfl := ti1 hF
      exact hret _ _ _ (vp_nar_int _) dX0_loadingError_30
    · replace hF := (if_pos q2).symm.trans hF
      refine kw_iload_n X dX0_loadingError_19 rfl 3 rfl ?_
      refine kw_iconst X dX0_loadingError_20 ci_1 ?_
      refine kw_bipush X dX0_loadingError_21 cb_10 ?_
      refine kw_snp X (r := .int (f_X6_outside p3 1 10)) (As := [.int p3, .int 1, .int 10]) (st := []) (c_X6_outside l D cI cC cR  p3 1 10 (f_X6_outside p3 1 10) rfl) nw_27 vn_X0_82 yv_X6_outside ⟨Nat.le_of_ble_eq_true rfl, Nat.le_of_ble_eq_true rfl⟩ ⟨rfl, rfl⟩ ⟨Nat.zero_le _, Nat.zero_le _⟩ [] rfl rfl rfl rfl (Nat.le_of_ble_eq_true rfl) dX0_loadingError_23 ?_
      refine kw_if_eq X 31 dX0_loadingError_26 (by decide) (fun q3 => ?_) (fun q3 => ?_)
      · replace hF := (if_pos q3).symm.trans hF
        refine kw_aload_n X dX0_loadingError_31 rfl 0 rfl ?_
        refine kw_get X inX0 0 rfl rfl 0 (by decide) rfl gw_95 rfl dX0_loadingError_32 ?_
        refine kw_iload_n X dX0_loadingError_35 rfl 2 rfl ?_
        refine kw_vp X (r := .int (f_X5_numberAt ta p2)) (As := [.int p2]) (st := []) (c_X5_numberAt l D cI cC cR h1 h2 h3 h4 h5 h6 h7 h8 h9 sp we le ta num p2 (f_X5_numberAt ta p2) rfl) vl_X0_75 yv_X5_numberAt ⟨Nat.le_of_ble_eq_true rfl, Nat.le_of_ble_eq_true rfl⟩ ⟨rfl, rfl⟩ ⟨Nat.zero_le _, Nat.zero_le _⟩ 1 rfl rfl [1, 2, 3, 4, 5, 6, 7, 8, 9] rfl rfl rfl rfl (Nat.le_of_ble_eq_true rfl) dX0_loadingError_36 ?_
        refine kw_iload_n X dX0_loadingError_39 rfl 3 rfl ?_
        refine kw_icmp_ge X 46 dX0_loadingError_40 (by decide) (fun q4 => ?_) (fun q4 => ?_)
        · replace hF := (if_neg q4).symm.trans hF
          refine kw_aload_n X dX0_loadingError_46 rfl 0 rfl ?_
          refine kw_get X inX0 0 rfl rfl 0 (by decide) rfl gw_95 rfl dX0_loadingError_47 ?_
          refine kw_bipush X dX0_loadingError_50 cb_20 ?_
          refine kw_iload_n X dX0_loadingError_52 rfl 1 rfl ?_
          refine kw_iadd X dX0_loadingError_53 ?_
          refine kw_vp X (r := .int (f_X5_numberAt ta (20 + p1))) (As := [.int (20 + p1)]) (st := []) (c_X5_numberAt l D cI cC cR h1 h2 h3 h4 h5 h6 h7 h8 h9 sp we le ta num (20 + p1) (f_X5_numberAt ta (20 + p1)) rfl) vl_X0_75 yv_X5_numberAt ⟨Nat.le_of_ble_eq_true rfl, Nat.le_of_ble_eq_true rfl⟩ ⟨rfl, rfl⟩ ⟨Nat.zero_le _, Nat.zero_le _⟩ 1 rfl rfl [1, 2, 3, 4, 5, 6, 7, 8, 9] rfl rfl rfl rfl (Nat.le_of_ble_eq_true rfl) dX0_loadingError_54 ?_
          refine kw_iload_n X dX0_loadingError_57 rfl 3 rfl ?_
          refine kw_iadd X dX0_loadingError_58 ?_
          refine kw_bipush X dX0_loadingError_59 cb_10 ?_
          obtain ⟨x6, hx7, hF⟩ := pl1_ex hF
          have J : KW Γ 0 0 (wX0 cI h0 h1 h2 h3 h4 h5 h6 h7 h8 h9 h10 h11 h12 h13 h14 h15 h16 h17 h18 h19 sp we le ta num rooms purses showers homes paid hours house spent loans surges rate) [] 69 [.int x6] := by
            refine kw_istore (lo' := [(4, .int x6)]) X dX0_loadingError_69 (by decide) [0] rfl ?_
            refine kw_iload X dX0_loadingError_71 0 rfl ?_
            refine kw_if_eq X 80 dX0_loadingError_73 (by decide) (fun q8 => ?_) (fun q8 => ?_)
            · replace hF := (if_pos q8).symm.trans hF
              refine kw_bipush X dX0_loadingError_80 cb_m3 ?_
              obtain rfl := ti1 hF
              exact hret _ _ _ (vp_nar_int _) dX0_loadingError_82
            · replace hF := (if_neg q8).symm.trans hF
              refine kw_iconst X dX0_loadingError_76 ci_0 ?_
              refine kw_goto X 82 dX0_loadingError_77 (by decide) ?_
              obtain rfl := ti1 hF
              exact hret _ _ _ (vp_nar_int _) dX0_loadingError_82
          replace hF := hx7
          refine kw_icmp_gt X 68 dX0_loadingError_61 (by decide) (fun q5 => ?_) (fun q5 => ?_)
          · replace hF := (if_pos q5).symm.trans hF
            refine kw_iconst X dX0_loadingError_68 ci_0 ?_
            refine kw_loc (lo' := []) [] rfl ?_
            obtain rfl := ti1 hF
            exact J
          · replace hF := (if_neg q5).symm.trans hF
            refine kw_iconst X dX0_loadingError_64 ci_1 ?_
            refine kw_goto X 69 dX0_loadingError_65 (by decide) ?_
            refine kw_loc (lo' := []) [] rfl ?_
            obtain rfl := ti1 hF
            exact J
        · replace hF := (if_pos q4).symm.trans hF
          refine kw_bipush X dX0_loadingError_43 cb_m2 ?_
          obtain rfl := ti1 hF
          exact hret _ _ _ (vp_nar_int _) dX0_loadingError_45
      · replace hF := (if_neg q3).symm.trans hF
        refine kw_iconst X dX0_loadingError_29 ci_m1 ?_
        obtain rfl := ti1 hF
        exact hret _ _ _ (vp_nar_int _) dX0_loadingError_30
-- X0_fillVan
def f_X0_fillVan_L6 (Z : Nat) (we : Nat → Int32) (num : Int32) (p1 : Int32) (p2 : Int32) (p3 : Int32) : Nat → Int32 → Int32 → (Nat → Int32) → (Nat → Int32) → Option (Int32 × (Nat → Int32) × (Nat → Int32))
  | 0, _, _, _, _ => none
  | F + 1, v4_22, v5_23, w24, w25 => (if v5_23 < p3 then (ob1 (f_X5_worstAt Z w24 we num p2) (fun (b27 : Int32) => (pl2 (f_X5_move w24 w25 b27 (20 + p1)) (fun (m28 : Nat → Int32) (m29 : Nat → Int32) => (pl1 (if (f_X5_isBroken we b27) = 0 then v4_22 else (v4_22 + 1)) (fun (v4_31 : Int32) => (f_X0_fillVan_L6 Z we num p1 p2 p3 F v4_31 (v5_23 + 1) m28 m29))))))) else (some (v4_22, w24, w25)))
def f_X0_fillVan (Z : Nat) (sp : Nat → Int32) (we : Nat → Int32) (ta : Nat → Int32) (num : Int32) (p1 : Int32) (p2 : Int32) (p3 : Int32) : Option (Int32 × (Nat → Int32) × (Nat → Int32)) :=
  (ob3 (f_X0_fillVan_L6 Z we num p1 p2 p3 Z 0 0 sp ta) (fun (e19 : Int32) (w20 : Nat → Int32) (w21 : Nat → Int32) => (some (e19, w20, w21))))
abbrev rm_X0_fillVan : Room := { frames := 2, cells := 0, slots := 0, locals := 44 }
set_option maxHeartbeats 4000000 in
set_option maxRecDepth 100000 in
theorem c_X0_fillVan (l : Launch) (D : va_G) (cI cC cR : ClassId) (h0 h1 h2 h3 h4 h5 h6 h7 h8 h9 h10 h11 h12 h13 h14 h15 h16 h17 h18 h19 : Nat) (sp : Nat → Int32) (we : Nat → Int32) (le : Nat → Int32) (ta : Nat → Int32) (num : Int32) (rooms : Nat → Int32) (purses : Nat → Int32) (showers : Nat → Int32) (homes : Nat → Int32) (paid : Nat → Int32) (hours : Int32) (house : Int32) (spent : Int32) (loans : Int32) (surges : Int32) (rate : Int32) (p1 : Int32) (p2 : Int32) (p3 : Int32) (Z : Nat) (r : Int32) (sp' : Nat → Int32) (ta' : Nat → Int32) (hF : f_X0_fillVan Z sp we ta num p1 p2 p3 = some (r, sp', ta')) : MEq l yX0_fillVan cX0_fillVan 7 (some .int) rm_X0_fillVan D (TY cI cC cR) [.ref h0, .int p1, .int p2, .int p3] (wX0 cI h0 h1 h2 h3 h4 h5 h6 h7 h8 h9 h10 h11 h12 h13 h14 h15 h16 h17 h18 h19 sp we le ta num rooms purses showers homes paid hours house spent loans surges rate) (wX0 cI h0 h1 h2 h3 h4 h5 h6 h7 h8 h9 h10 h11 h12 h13 h14 h15 h16 h17 h18 h19 sp' we le ta' num rooms purses showers homes paid hours house spent loans surges rate) (some (.int r)) := by
  refine me_e pn_X0 (Nat.le_of_ble_eq_true rfl) rfl (fun Γ X E hret => ?_)
  unfold f_X0_fillVan at hF
  refine kw_iconst X dX0_fillVan_0 ci_0 ?_
  refine kw_istore (lo' := [(0, .ref h0), (1, .int p1), (2, .int p2), (3, .int p3), (4, .int 0)]) X dX0_fillVan_1 (by decide) [1, 2, 3, 4, 0] rfl ?_
  refine kw_iconst X dX0_fillVan_3 ci_0 ?_
  refine kw_istore (lo' := [(0, .ref h0), (1, .int p1), (2, .int p2), (3, .int p3), (4, .int 0), (5, .int 0)]) X dX0_fillVan_4 (by decide) [1, 2, 3, 4, 5, 0] rfl ?_
  obtain ⟨e19, w20, w21, hx, hF⟩ := ob3_ex hF
  have J : KW Γ 0 0 (wX0 cI h0 h1 h2 h3 h4 h5 h6 h7 h8 h9 h10 h11 h12 h13 h14 h15 h16 h17 h18 h19 w20 we le w21 num rooms purses showers homes paid hours house spent loans surges rate) [(4, .int e19)] 56 [] := by
    refine kw_iload X dX0_fillVan_56 0 rfl ?_
    obtain ⟨rfl, rfl, rfl⟩ := si3 hF
    exact hret _ _ (vp_nar_int _) dX0_fillVan_58
  have hL6 : ∀ (F : Nat) (v4_22 : Int32) (v5_23 : Int32) (w24 : Nat → Int32) (w25 : Nat → Int32), f_X0_fillVan_L6 Z we num p1 p2 p3 F v4_22 v5_23 w24 w25 = some (e19, w20, w21) → KW Γ 0 0 (wX0 cI h0 h1 h2 h3 h4 h5 h6 h7 h8 h9 h10 h11 h12 h13 h14 h15 h16 h17 h18 h19 w24 we le w25 num rooms purses showers homes paid hours house spent loans surges rate) [(0, .ref h0), (1, .int p1), (2, .int p2), (3, .int p3), (4, .int v4_22), (5, .int v5_23)] 6 [] := by
    intro F
    induction F with
    | zero => intro v4_22 v5_23 w24 w25 hF; exact none_some hF
    | succ F ih6 =>
      intro v4_22 v5_23 w24 w25 hF
      rw [f_X0_fillVan_L6] at hF
      refine kw_iload X dX0_fillVan_6 5 rfl ?_
      refine kw_iload_n X dX0_fillVan_8 rfl 3 rfl ?_
      refine kw_icmp_ge X 56 dX0_fillVan_9 (by decide) (fun q26 => ?_) (fun q26 => ?_)
      · replace hF := (if_neg q26).symm.trans hF
        refine kw_loc (lo' := [(4, .int v4_22)]) [4] rfl ?_
        obtain ⟨rfl, rfl, rfl⟩ := si3 hF
        exact J
      · replace hF := (if_pos q26).symm.trans hF
        refine kw_aload_n X dX0_fillVan_12 rfl 0 rfl ?_
        refine kw_get X inX0 0 rfl rfl 0 (by decide) rfl gw_95 rfl dX0_fillVan_13 ?_
        refine kw_iload_n X dX0_fillVan_16 rfl 2 rfl ?_
        obtain ⟨b27, hx27, hF⟩ := ob1_ex hF
        refine kw_vp X (r := .int b27) (As := [.int p2]) (st := []) (c_X5_worstAt l D cI cC cR h1 h2 h3 h4 h5 h6 h7 h8 h9 w24 we le w25 num p2 Z b27 hx27) vl_X0_161 yv_X5_worstAt ⟨Nat.le_of_ble_eq_true rfl, Nat.le_of_ble_eq_true rfl⟩ ⟨rfl, rfl⟩ ⟨Nat.zero_le _, Nat.zero_le _⟩ 1 rfl rfl [1, 2, 3, 4, 5, 6, 7, 8, 9] rfl rfl rfl rfl (Nat.le_of_ble_eq_true rfl) dX0_fillVan_17 ?_
        refine kw_istore (lo' := [(0, .ref h0), (1, .int p1), (2, .int p2), (3, .int p3), (4, .int v4_22), (5, .int v5_23), (6, .int b27)]) X dX0_fillVan_20 (by decide) [1, 2, 3, 4, 5, 6, 0] rfl ?_
        refine kw_aload_n X dX0_fillVan_22 rfl 0 rfl ?_
        refine kw_get X inX0 0 rfl rfl 0 (by decide) rfl gw_95 rfl dX0_fillVan_23 ?_
        refine kw_iload X dX0_fillVan_26 6 rfl ?_
        refine kw_bipush X dX0_fillVan_28 cb_20 ?_
        refine kw_iload_n X dX0_fillVan_30 rfl 1 rfl ?_
        refine kw_iadd X dX0_fillVan_31 ?_
        obtain ⟨m28, m29, hx29, hF⟩ := pl2_ex hF
        refine kw_vev X (As := [.int b27, .int (20 + p1)]) (st := []) (ws' := wX0 cI h0 h1 h2 h3 h4 h5 h6 h7 h8 h9 h10 h11 h12 h13 h14 h15 h16 h17 h18 h19 m28 we le m29 num rooms purses showers homes paid hours house spent loans surges rate) E (c_X5_move l D cI cC cR h1 h2 h3 h4 h5 h6 h7 h8 h9 w24 we le w25 num b27 (20 + p1) m28 m29 hx29) vl_X0_113 yv_X5_move ⟨Nat.le_of_ble_eq_true rfl, Nat.le_of_ble_eq_true rfl⟩ ⟨rfl, rfl⟩ ⟨Nat.zero_le _, Nat.zero_le _⟩ 1 rfl rfl [1, 2, 3, 4, 5, 6, 7, 8, 9] rfl rfl rfl rfl (Nat.le_of_ble_eq_true rfl) dX0_fillVan_32 [h1, h2, h3, h4, h5, h6, h7, h8, h9] rfl rfl rfl ?_
        refine kw_aload_n X dX0_fillVan_35 rfl 0 rfl ?_
        refine kw_get X inX0 0 rfl rfl 0 (by decide) rfl gw_95 rfl dX0_fillVan_36 ?_
        refine kw_iload X dX0_fillVan_39 6 rfl ?_
        refine kw_vp X (r := .int (f_X5_isBroken we b27)) (As := [.int b27]) (st := []) (c_X5_isBroken l D cI cC cR h1 h2 h3 h4 h5 h6 h7 h8 h9 m28 we le m29 num b27 (f_X5_isBroken we b27) rfl) vl_X0_164 yv_X5_isBroken ⟨Nat.le_of_ble_eq_true rfl, Nat.le_of_ble_eq_true rfl⟩ ⟨rfl, rfl⟩ ⟨Nat.zero_le _, Nat.zero_le _⟩ 1 rfl rfl [1, 2, 3, 4, 5, 6, 7, 8, 9] rfl rfl rfl rfl (Nat.le_of_ble_eq_true rfl) dX0_fillVan_41 ?_
        obtain ⟨v4_31, hx32, hF⟩ := pl1_ex hF
        have J : KW Γ 0 0 (wX0 cI h0 h1 h2 h3 h4 h5 h6 h7 h8 h9 h10 h11 h12 h13 h14 h15 h16 h17 h18 h19 m28 we le m29 num rooms purses showers homes paid hours house spent loans surges rate) [(0, .ref h0), (1, .int p1), (2, .int p2), (3, .int p3), (4, .int v4_31), (5, .int v5_23)] 50 [] := by
          refine kw_iinc (lo' := [(0, .ref h0), (1, .int p1), (2, .int p2), (3, .int p3), (4, .int v4_31), (5, .int (v5_23 + 1))]) X dX0_fillVan_50 5 rfl (congrArg (fun w => v5_23 + w) ci_1) (by decide) [1, 2, 3, 4, 5, 0] rfl ?_
          refine kw_goto X 6 dX0_fillVan_53 (by decide) ?_
          exact ih6 _ _ _ _ hF
        replace hF := hx32
        refine kw_if_eq X 50 dX0_fillVan_44 (by decide) (fun q30 => ?_) (fun q30 => ?_)
        · replace hF := (if_pos q30).symm.trans hF
          refine kw_loc (lo' := [(0, .ref h0), (1, .int p1), (2, .int p2), (3, .int p3), (4, .int v4_22), (5, .int v5_23)]) [0, 1, 2, 3, 4, 5] rfl ?_
          obtain rfl := ti1 hF
          exact J
        · replace hF := (if_neg q30).symm.trans hF
          refine kw_iinc (lo' := [(0, .ref h0), (1, .int p1), (2, .int p2), (3, .int p3), (4, .int (v4_22 + 1)), (5, .int v5_23), (6, .int b27)]) X dX0_fillVan_47 4 rfl (congrArg (fun w => v4_22 + w) ci_1) (by decide) [1, 2, 3, 4, 0, 5, 6] rfl ?_
          refine kw_loc (lo' := [(0, .ref h0), (1, .int p1), (2, .int p2), (3, .int p3), (4, .int (v4_22 + 1)), (5, .int v5_23)]) [0, 1, 2, 3, 4, 5] rfl ?_
          obtain rfl := ti1 hF
          exact J
  exact hL6 Z _ _ _ _ hx
-- X0_unloadingError
def f_X0_unloadingError (Z : Nat) (sp : Nat → Int32) (we : Nat → Int32) (ta : Nat → Int32) (num : Int32) (rooms : Nat → Int32) (p1 : Int32) (p2 : Int32) (p3 : Int32) : Option (Int32) :=
  (if (f_X6_outside p1 0 1) = 0 then (if (f_X6_outside p2 0 7) = 0 then (if (f_X6_outside p3 1 10) = 0 then (ob1 (f_X5_wholeAt Z sp we ta num (20 + p1)) (fun (b4 : Int32) => (if b4 < p3 then (some (-2)) else (if (f_X0_freeAt ta rooms p2) < p3 then (some (-3)) else (some 0))))) else (some (-1))) else (some (-1))) else (some (-1)))
abbrev rm_X0_unloadingError : Room := { frames := 4, cells := 0, slots := 0, locals := 86 }
set_option maxHeartbeats 4000000 in
set_option maxRecDepth 100000 in
theorem c_X0_unloadingError (l : Launch) (D : va_G) (cI cC cR : ClassId) (h0 h1 h2 h3 h4 h5 h6 h7 h8 h9 h10 h11 h12 h13 h14 h15 h16 h17 h18 h19 : Nat) (sp : Nat → Int32) (we : Nat → Int32) (le : Nat → Int32) (ta : Nat → Int32) (num : Int32) (rooms : Nat → Int32) (purses : Nat → Int32) (showers : Nat → Int32) (homes : Nat → Int32) (paid : Nat → Int32) (hours : Int32) (house : Int32) (spent : Int32) (loans : Int32) (surges : Int32) (rate : Int32) (p1 : Int32) (p2 : Int32) (p3 : Int32) (Z : Nat) (r : Int32) (hF : f_X0_unloadingError Z sp we ta num rooms p1 p2 p3 = some r) : MPi l yX0_unloadingError cX0_unloadingError 4 (some .int) rm_X0_unloadingError D (TY cI cC cR) [.ref h0, .int p1, .int p2, .int p3] (wX0 cI h0 h1 h2 h3 h4 h5 h6 h7 h8 h9 h10 h11 h12 h13 h14 h15 h16 h17 h18 h19 sp we le ta num rooms purses showers homes paid hours house spent loans surges rate) (.int r) := by
  refine me_p pn_X0 (Nat.le_of_ble_eq_true rfl) rfl (fun Γ X hret => ?_)
  unfold f_X0_unloadingError at hF
  refine kw_iload_n X dX0_unloadingError_0 rfl 1 rfl ?_
  refine kw_iconst X dX0_unloadingError_1 ci_0 ?_
  refine kw_iconst X dX0_unloadingError_2 ci_1 ?_
  refine kw_snp X (r := .int (f_X6_outside p1 0 1)) (As := [.int p1, .int 0, .int 1]) (st := []) (c_X6_outside l D cI cC cR  p1 0 1 (f_X6_outside p1 0 1) rfl) nw_27 vn_X0_82 yv_X6_outside ⟨Nat.le_of_ble_eq_true rfl, Nat.le_of_ble_eq_true rfl⟩ ⟨rfl, rfl⟩ ⟨Nat.zero_le _, Nat.zero_le _⟩ [] rfl rfl rfl rfl (Nat.le_of_ble_eq_true rfl) dX0_unloadingError_3 ?_
  refine kw_if_ne X 29 dX0_unloadingError_6 (by decide) (fun q1 => ?_) (fun q1 => ?_)
  · replace hF := (if_neg q1).symm.trans hF
    refine kw_iconst X dX0_unloadingError_29 ci_m1 ?_
    obtain rfl := si1 hF
    exact hret _ _ _ (vp_nar_int _) dX0_unloadingError_30
  · replace hF := (if_pos q1).symm.trans hF
    refine kw_iload_n X dX0_unloadingError_9 rfl 2 rfl ?_
    refine kw_iconst X dX0_unloadingError_10 ci_0 ?_
    refine kw_bipush X dX0_unloadingError_11 cb_7 ?_
    refine kw_snp X (r := .int (f_X6_outside p2 0 7)) (As := [.int p2, .int 0, .int 7]) (st := []) (c_X6_outside l D cI cC cR  p2 0 7 (f_X6_outside p2 0 7) rfl) nw_27 vn_X0_82 yv_X6_outside ⟨Nat.le_of_ble_eq_true rfl, Nat.le_of_ble_eq_true rfl⟩ ⟨rfl, rfl⟩ ⟨Nat.zero_le _, Nat.zero_le _⟩ [] rfl rfl rfl rfl (Nat.le_of_ble_eq_true rfl) dX0_unloadingError_13 ?_
    refine kw_if_ne X 29 dX0_unloadingError_16 (by decide) (fun q2 => ?_) (fun q2 => ?_)
    · replace hF := (if_neg q2).symm.trans hF
      refine kw_iconst X dX0_unloadingError_29 ci_m1 ?_
      obtain rfl := si1 hF
      exact hret _ _ _ (vp_nar_int _) dX0_unloadingError_30
    · replace hF := (if_pos q2).symm.trans hF
      refine kw_iload_n X dX0_unloadingError_19 rfl 3 rfl ?_
      refine kw_iconst X dX0_unloadingError_20 ci_1 ?_
      refine kw_bipush X dX0_unloadingError_21 cb_10 ?_
      refine kw_snp X (r := .int (f_X6_outside p3 1 10)) (As := [.int p3, .int 1, .int 10]) (st := []) (c_X6_outside l D cI cC cR  p3 1 10 (f_X6_outside p3 1 10) rfl) nw_27 vn_X0_82 yv_X6_outside ⟨Nat.le_of_ble_eq_true rfl, Nat.le_of_ble_eq_true rfl⟩ ⟨rfl, rfl⟩ ⟨Nat.zero_le _, Nat.zero_le _⟩ [] rfl rfl rfl rfl (Nat.le_of_ble_eq_true rfl) dX0_unloadingError_23 ?_
      refine kw_if_eq X 31 dX0_unloadingError_26 (by decide) (fun q3 => ?_) (fun q3 => ?_)
      · replace hF := (if_pos q3).symm.trans hF
        refine kw_aload_n X dX0_unloadingError_31 rfl 0 rfl ?_
        refine kw_get X inX0 0 rfl rfl 0 (by decide) rfl gw_95 rfl dX0_unloadingError_32 ?_
        refine kw_bipush X dX0_unloadingError_35 cb_20 ?_
        refine kw_iload_n X dX0_unloadingError_37 rfl 1 rfl ?_
        refine kw_iadd X dX0_unloadingError_38 ?_
        obtain ⟨b4, hx4, hF⟩ := ob1_ex hF
        refine kw_vp X (r := .int b4) (As := [.int (20 + p1)]) (st := []) (c_X5_wholeAt l D cI cC cR h1 h2 h3 h4 h5 h6 h7 h8 h9 sp we le ta num (20 + p1) Z b4 hx4) vl_X0_158 yv_X5_wholeAt ⟨Nat.le_of_ble_eq_true rfl, Nat.le_of_ble_eq_true rfl⟩ ⟨rfl, rfl⟩ ⟨Nat.zero_le _, Nat.zero_le _⟩ 1 rfl rfl [1, 2, 3, 4, 5, 6, 7, 8, 9] rfl rfl rfl rfl (Nat.le_of_ble_eq_true rfl) dX0_unloadingError_39 ?_
        refine kw_iload_n X dX0_unloadingError_42 rfl 3 rfl ?_
        refine kw_icmp_ge X 49 dX0_unloadingError_43 (by decide) (fun q5 => ?_) (fun q5 => ?_)
        · replace hF := (if_neg q5).symm.trans hF
          refine kw_aload_n X dX0_unloadingError_49 rfl 0 rfl ?_
          refine kw_iload_n X dX0_unloadingError_50 rfl 2 rfl ?_
          refine kw_ap X (r := .int (f_X0_freeAt ta rooms p2)) (As := [.int p2]) (st := []) (c_X0_freeAt l D cI cC cR h0 h1 h2 h3 h4 h5 h6 h7 h8 h9 h10 h11 h12 h13 h14 h15 h16 h17 h18 h19 sp we le ta num rooms purses showers homes paid hours house spent loans surges rate p2 (f_X0_freeAt ta rooms p2) rfl) vl_X0_93 yv_X0_freeAt ⟨Nat.le_of_ble_eq_true rfl, Nat.le_of_ble_eq_true rfl⟩ ⟨rfl, rfl⟩ ⟨Nat.zero_le _, Nat.zero_le _⟩ 0 rfl rfl rfl rfl (Nat.le_of_ble_eq_true rfl) dX0_unloadingError_51 ?_
          refine kw_iload_n X dX0_unloadingError_54 rfl 3 rfl ?_
          refine kw_icmp_ge X 63 dX0_unloadingError_55 (by decide) (fun q6 => ?_) (fun q6 => ?_)
          · replace hF := (if_neg q6).symm.trans hF
            refine kw_iconst X dX0_unloadingError_63 ci_0 ?_
            obtain rfl := si1 hF
            exact hret _ _ _ (vp_nar_int _) dX0_unloadingError_64
          · replace hF := (if_pos q6).symm.trans hF
            refine kw_bipush X dX0_unloadingError_58 cb_m3 ?_
            refine kw_goto X 64 dX0_unloadingError_60 (by decide) ?_
            obtain rfl := si1 hF
            exact hret _ _ _ (vp_nar_int _) dX0_unloadingError_64
        · replace hF := (if_pos q5).symm.trans hF
          refine kw_bipush X dX0_unloadingError_46 cb_m2 ?_
          obtain rfl := si1 hF
          exact hret _ _ _ (vp_nar_int _) dX0_unloadingError_48
      · replace hF := (if_neg q3).symm.trans hF
        refine kw_iconst X dX0_unloadingError_29 ci_m1 ?_
        obtain rfl := si1 hF
        exact hret _ _ _ (vp_nar_int _) dX0_unloadingError_30
-- X0_emptyVan
def f_X0_emptyVan_L6 (we : Nat → Int32) (num : Int32) (p1 : Int32) (p2 : Int32) (p3 : Int32) : Nat → Int32 → Int32 → (Nat → Int32) → (Nat → Int32) → Option ((Nat → Int32) × (Nat → Int32))
  | 0, _, _, _, _ => none
  | F + 1, v4_33, v5_34, w35, w36 => (if v5_34 < num then (if v4_33 < p3 then (pl3 (if (f_X2_at 60 w35 v5_34) = (20 + p1) then (if (f_X5_isBroken we v5_34) = 0 then (pl2 (f_X5_move w35 w36 v5_34 p2) (fun (m48 : Nat → Int32) (m49 : Nat → Int32) => ((v4_33 + 1), m48, m49))) else (v4_33, w35, w36)) else (v4_33, w35, w36)) (fun (v4_43 : Int32) (w44 : Nat → Int32) (w45 : Nat → Int32) => (f_X0_emptyVan_L6 we num p1 p2 p3 F v4_43 (v5_34 + 1) w44 w45))) else (some (w35, w36))) else (some (w35, w36)))
def f_X0_emptyVan (Z : Nat) (sp : Nat → Int32) (we : Nat → Int32) (ta : Nat → Int32) (num : Int32) (p1 : Int32) (p2 : Int32) (p3 : Int32) : Option (Int32 × (Nat → Int32) × (Nat → Int32)) :=
  (ob2 (f_X0_emptyVan_L6 we num p1 p2 p3 Z 0 0 sp ta) (fun (w31 : Nat → Int32) (w32 : Nat → Int32) => (some ((f_X5_numberAt w32 (20 + p1)), w31, w32))))
abbrev rm_X0_emptyVan : Room := { frames := 2, cells := 0, slots := 0, locals := 44 }
set_option maxHeartbeats 4000000 in
set_option maxRecDepth 100000 in
theorem c_X0_emptyVan (l : Launch) (D : va_G) (cI cC cR : ClassId) (h0 h1 h2 h3 h4 h5 h6 h7 h8 h9 h10 h11 h12 h13 h14 h15 h16 h17 h18 h19 : Nat) (sp : Nat → Int32) (we : Nat → Int32) (le : Nat → Int32) (ta : Nat → Int32) (num : Int32) (rooms : Nat → Int32) (purses : Nat → Int32) (showers : Nat → Int32) (homes : Nat → Int32) (paid : Nat → Int32) (hours : Int32) (house : Int32) (spent : Int32) (loans : Int32) (surges : Int32) (rate : Int32) (p1 : Int32) (p2 : Int32) (p3 : Int32) (Z : Nat) (r : Int32) (sp' : Nat → Int32) (ta' : Nat → Int32) (hF : f_X0_emptyVan Z sp we ta num p1 p2 p3 = some (r, sp', ta')) : MEq l yX0_emptyVan cX0_emptyVan 6 (some .int) rm_X0_emptyVan D (TY cI cC cR) [.ref h0, .int p1, .int p2, .int p3] (wX0 cI h0 h1 h2 h3 h4 h5 h6 h7 h8 h9 h10 h11 h12 h13 h14 h15 h16 h17 h18 h19 sp we le ta num rooms purses showers homes paid hours house spent loans surges rate) (wX0 cI h0 h1 h2 h3 h4 h5 h6 h7 h8 h9 h10 h11 h12 h13 h14 h15 h16 h17 h18 h19 sp' we le ta' num rooms purses showers homes paid hours house spent loans surges rate) (some (.int r)) := by
  refine me_e pn_X0 (Nat.le_of_ble_eq_true rfl) rfl (fun Γ X E hret => ?_)
  unfold f_X0_emptyVan at hF
  refine kw_iconst X dX0_emptyVan_0 ci_0 ?_
  refine kw_istore (lo' := [(0, .ref h0), (1, .int p1), (2, .int p2), (3, .int p3), (4, .int 0)]) X dX0_emptyVan_1 (by decide) [1, 2, 3, 4, 0] rfl ?_
  refine kw_iconst X dX0_emptyVan_3 ci_0 ?_
  refine kw_istore (lo' := [(0, .ref h0), (1, .int p1), (2, .int p2), (3, .int p3), (4, .int 0), (5, .int 0)]) X dX0_emptyVan_4 (by decide) [1, 2, 3, 4, 5, 0] rfl ?_
  obtain ⟨w31, w32, hx, hF⟩ := ob2_ex hF
  have J : KW Γ 0 0 (wX0 cI h0 h1 h2 h3 h4 h5 h6 h7 h8 h9 h10 h11 h12 h13 h14 h15 h16 h17 h18 h19 w31 we le w32 num rooms purses showers homes paid hours house spent loans surges rate) [(0, .ref h0), (1, .int p1)] 74 [] := by
    refine kw_aload_n X dX0_emptyVan_74 rfl 0 rfl ?_
    refine kw_get X inX0 0 rfl rfl 0 (by decide) rfl gw_95 rfl dX0_emptyVan_75 ?_
    refine kw_bipush X dX0_emptyVan_78 cb_20 ?_
    refine kw_iload_n X dX0_emptyVan_80 rfl 1 rfl ?_
    refine kw_iadd X dX0_emptyVan_81 ?_
    refine kw_vp X (r := .int (f_X5_numberAt w32 (20 + p1))) (As := [.int (20 + p1)]) (st := []) (c_X5_numberAt l D cI cC cR h1 h2 h3 h4 h5 h6 h7 h8 h9 w31 we le w32 num (20 + p1) (f_X5_numberAt w32 (20 + p1)) rfl) vl_X0_75 yv_X5_numberAt ⟨Nat.le_of_ble_eq_true rfl, Nat.le_of_ble_eq_true rfl⟩ ⟨rfl, rfl⟩ ⟨Nat.zero_le _, Nat.zero_le _⟩ 1 rfl rfl [1, 2, 3, 4, 5, 6, 7, 8, 9] rfl rfl rfl rfl (Nat.le_of_ble_eq_true rfl) dX0_emptyVan_82 ?_
    obtain ⟨rfl, rfl, rfl⟩ := si3 hF
    exact hret _ _ (vp_nar_int _) dX0_emptyVan_85
  have hL6 : ∀ (F : Nat) (v4_33 : Int32) (v5_34 : Int32) (w35 : Nat → Int32) (w36 : Nat → Int32), f_X0_emptyVan_L6 we num p1 p2 p3 F v4_33 v5_34 w35 w36 = some (w31, w32) → KW Γ 0 0 (wX0 cI h0 h1 h2 h3 h4 h5 h6 h7 h8 h9 h10 h11 h12 h13 h14 h15 h16 h17 h18 h19 w35 we le w36 num rooms purses showers homes paid hours house spent loans surges rate) [(0, .ref h0), (1, .int p1), (2, .int p2), (3, .int p3), (4, .int v4_33), (5, .int v5_34)] 6 [] := by
    intro F
    induction F with
    | zero => intro v4_33 v5_34 w35 w36 hF; exact none_some hF
    | succ F ih6 =>
      intro v4_33 v5_34 w35 w36 hF
      rw [f_X0_emptyVan_L6] at hF
      refine kw_iload X dX0_emptyVan_6 5 rfl ?_
      refine kw_aload_n X dX0_emptyVan_8 rfl 0 rfl ?_
      refine kw_get X inX0 0 rfl rfl 0 (by decide) rfl gw_95 rfl dX0_emptyVan_9 ?_
      refine kw_getN X inX5 1 rfl rfl 4 (by decide) rfl nw_8 rfl dX0_emptyVan_12 ?_
      refine kw_icmp_ge X 74 dX0_emptyVan_15 (by decide) (fun q37 => ?_) (fun q37 => ?_)
      · replace hF := (if_neg q37).symm.trans hF
        refine kw_loc (lo' := [(0, .ref h0), (1, .int p1)]) [0, 1] rfl ?_
        obtain ⟨rfl, rfl⟩ := si2 hF
        exact J
      · replace hF := (if_pos q37).symm.trans hF
        refine kw_iload X dX0_emptyVan_18 4 rfl ?_
        refine kw_iload_n X dX0_emptyVan_20 rfl 3 rfl ?_
        refine kw_icmp_ge X 74 dX0_emptyVan_21 (by decide) (fun q38 => ?_) (fun q38 => ?_)
        · replace hF := (if_neg q38).symm.trans hF
          refine kw_loc (lo' := [(0, .ref h0), (1, .int p1)]) [0, 1] rfl ?_
          obtain ⟨rfl, rfl⟩ := si2 hF
          exact J
        · replace hF := (if_pos q38).symm.trans hF
          refine kw_aload_n X dX0_emptyVan_24 rfl 0 rfl ?_
          refine kw_get X inX0 0 rfl rfl 0 (by decide) rfl gw_95 rfl dX0_emptyVan_25 ?_
          refine kw_getN X inX5 1 rfl rfl 0 (by decide) rfl nw_3 rfl dX0_emptyVan_28 ?_
          refine kw_iload X dX0_emptyVan_31 5 rfl ?_
          refine kw_vp X (r := .int (f_X2_at 60 w35 v5_34)) (As := [.int v5_34]) (st := []) (c_X2_at l D cI cC cR h2 h3 60 (by decide) w35 v5_34 (f_X2_at 60 w35 v5_34) rfl) vl_X0_72 yv_X2_at ⟨Nat.le_of_ble_eq_true rfl, Nat.le_of_ble_eq_true rfl⟩ ⟨rfl, rfl⟩ ⟨Nat.zero_le _, Nat.zero_le _⟩ 2 rfl rfl [2, 3] rfl rfl rfl rfl (Nat.le_of_ble_eq_true rfl) dX0_emptyVan_33 ?_
          refine kw_bipush X dX0_emptyVan_36 cb_20 ?_
          refine kw_iload_n X dX0_emptyVan_38 rfl 1 rfl ?_
          refine kw_iadd X dX0_emptyVan_39 ?_
          obtain ⟨v4_43, w44, w45, hx46, hF⟩ := pl3_ex hF
          have J : KW Γ 0 0 (wX0 cI h0 h1 h2 h3 h4 h5 h6 h7 h8 h9 h10 h11 h12 h13 h14 h15 h16 h17 h18 h19 w44 we le w45 num rooms purses showers homes paid hours house spent loans surges rate) [(0, .ref h0), (1, .int p1), (2, .int p2), (3, .int p3), (4, .int v4_43), (5, .int v5_34)] 68 [] := by
            refine kw_iinc (lo' := [(0, .ref h0), (1, .int p1), (2, .int p2), (3, .int p3), (4, .int v4_43), (5, .int (v5_34 + 1))]) X dX0_emptyVan_68 5 rfl (congrArg (fun w => v5_34 + w) ci_1) (by decide) [1, 2, 3, 4, 5, 0] rfl ?_
            refine kw_goto X 6 dX0_emptyVan_71 (by decide) ?_
            exact ih6 _ _ _ _ hF
          replace hF := hx46
          refine kw_icmp_ne X 68 dX0_emptyVan_40 (by decide) (fun q39 => ?_) (fun q39 => ?_)
          · replace hF := (if_neg q39).symm.trans hF
            obtain ⟨rfl, rfl, rfl⟩ := ti3 hF
            exact J
          · replace hF := (if_pos q39).symm.trans hF
            refine kw_aload_n X dX0_emptyVan_43 rfl 0 rfl ?_
            refine kw_get X inX0 0 rfl rfl 0 (by decide) rfl gw_95 rfl dX0_emptyVan_44 ?_
            refine kw_iload X dX0_emptyVan_47 5 rfl ?_
            refine kw_vp X (r := .int (f_X5_isBroken we v5_34)) (As := [.int v5_34]) (st := []) (c_X5_isBroken l D cI cC cR h1 h2 h3 h4 h5 h6 h7 h8 h9 w35 we le w36 num v5_34 (f_X5_isBroken we v5_34) rfl) vl_X0_164 yv_X5_isBroken ⟨Nat.le_of_ble_eq_true rfl, Nat.le_of_ble_eq_true rfl⟩ ⟨rfl, rfl⟩ ⟨Nat.zero_le _, Nat.zero_le _⟩ 1 rfl rfl [1, 2, 3, 4, 5, 6, 7, 8, 9] rfl rfl rfl rfl (Nat.le_of_ble_eq_true rfl) dX0_emptyVan_49 ?_
            refine kw_if_ne X 68 dX0_emptyVan_52 (by decide) (fun q47 => ?_) (fun q47 => ?_)
            · replace hF := (if_neg q47).symm.trans hF
              obtain ⟨rfl, rfl, rfl⟩ := ti3 hF
              exact J
            · replace hF := (if_pos q47).symm.trans hF
              refine kw_aload_n X dX0_emptyVan_55 rfl 0 rfl ?_
              refine kw_get X inX0 0 rfl rfl 0 (by decide) rfl gw_95 rfl dX0_emptyVan_56 ?_
              refine kw_iload X dX0_emptyVan_59 5 rfl ?_
              refine kw_iload_n X dX0_emptyVan_61 rfl 2 rfl ?_
              obtain ⟨m48, m49, hx49, hF⟩ := pl2_ex hF
              refine kw_vev X (As := [.int v5_34, .int p2]) (st := []) (ws' := wX0 cI h0 h1 h2 h3 h4 h5 h6 h7 h8 h9 h10 h11 h12 h13 h14 h15 h16 h17 h18 h19 m48 we le m49 num rooms purses showers homes paid hours house spent loans surges rate) E (c_X5_move l D cI cC cR h1 h2 h3 h4 h5 h6 h7 h8 h9 w35 we le w36 num v5_34 p2 m48 m49 hx49) vl_X0_113 yv_X5_move ⟨Nat.le_of_ble_eq_true rfl, Nat.le_of_ble_eq_true rfl⟩ ⟨rfl, rfl⟩ ⟨Nat.zero_le _, Nat.zero_le _⟩ 1 rfl rfl [1, 2, 3, 4, 5, 6, 7, 8, 9] rfl rfl rfl rfl (Nat.le_of_ble_eq_true rfl) dX0_emptyVan_62 [h1, h2, h3, h4, h5, h6, h7, h8, h9] rfl rfl rfl ?_
              refine kw_iinc (lo' := [(0, .ref h0), (1, .int p1), (2, .int p2), (3, .int p3), (4, .int (v4_33 + 1)), (5, .int v5_34)]) X dX0_emptyVan_65 4 rfl (congrArg (fun w => v4_33 + w) ci_1) (by decide) [1, 2, 3, 4, 0, 5] rfl ?_
              obtain ⟨rfl, rfl, rfl⟩ := ti3 hF
              exact J
  exact hL6 Z _ _ _ _ hx
-- X0_deliveringError
def f_X0_deliveringError (Z : Nat) (sp : Nat → Int32) (we : Nat → Int32) (num : Int32) (p1 : Int32) : Option (Int32) :=
  (if (f_X6_outside p1 0 1) = 0 then (ob1 (f_X5_brokenAt Z sp we num (20 + p1)) (fun (b2 : Int32) => (if b2 = 0 then (some (-2)) else (some 0)))) else (some (-1)))
abbrev rm_X0_deliveringError : Room := { frames := 3, cells := 0, slots := 0, locals := 65 }
set_option maxHeartbeats 4000000 in
set_option maxRecDepth 100000 in
theorem c_X0_deliveringError (l : Launch) (D : va_G) (cI cC cR : ClassId) (h0 h1 h2 h3 h4 h5 h6 h7 h8 h9 h10 h11 h12 h13 h14 h15 h16 h17 h18 h19 : Nat) (sp : Nat → Int32) (we : Nat → Int32) (le : Nat → Int32) (ta : Nat → Int32) (num : Int32) (rooms : Nat → Int32) (purses : Nat → Int32) (showers : Nat → Int32) (homes : Nat → Int32) (paid : Nat → Int32) (hours : Int32) (house : Int32) (spent : Int32) (loans : Int32) (surges : Int32) (rate : Int32) (p1 : Int32) (Z : Nat) (r : Int32) (hF : f_X0_deliveringError Z sp we num p1 = some r) : MPi l yX0_deliveringError cX0_deliveringError 2 (some .int) rm_X0_deliveringError D (TY cI cC cR) [.ref h0, .int p1] (wX0 cI h0 h1 h2 h3 h4 h5 h6 h7 h8 h9 h10 h11 h12 h13 h14 h15 h16 h17 h18 h19 sp we le ta num rooms purses showers homes paid hours house spent loans surges rate) (.int r) := by
  refine me_p pn_X0 (Nat.le_of_ble_eq_true rfl) rfl (fun Γ X hret => ?_)
  unfold f_X0_deliveringError at hF
  refine kw_iload_n X dX0_deliveringError_0 rfl 1 rfl ?_
  refine kw_iconst X dX0_deliveringError_1 ci_0 ?_
  refine kw_iconst X dX0_deliveringError_2 ci_1 ?_
  refine kw_snp X (r := .int (f_X6_outside p1 0 1)) (As := [.int p1, .int 0, .int 1]) (st := []) (c_X6_outside l D cI cC cR  p1 0 1 (f_X6_outside p1 0 1) rfl) nw_27 vn_X0_82 yv_X6_outside ⟨Nat.le_of_ble_eq_true rfl, Nat.le_of_ble_eq_true rfl⟩ ⟨rfl, rfl⟩ ⟨Nat.zero_le _, Nat.zero_le _⟩ [] rfl rfl rfl rfl (Nat.le_of_ble_eq_true rfl) dX0_deliveringError_3 ?_
  refine kw_if_eq X 11 dX0_deliveringError_6 (by decide) (fun q1 => ?_) (fun q1 => ?_)
  · replace hF := (if_pos q1).symm.trans hF
    refine kw_aload_n X dX0_deliveringError_11 rfl 0 rfl ?_
    refine kw_get X inX0 0 rfl rfl 0 (by decide) rfl gw_95 rfl dX0_deliveringError_12 ?_
    refine kw_bipush X dX0_deliveringError_15 cb_20 ?_
    refine kw_iload_n X dX0_deliveringError_17 rfl 1 rfl ?_
    refine kw_iadd X dX0_deliveringError_18 ?_
    obtain ⟨b2, hx2, hF⟩ := ob1_ex hF
    refine kw_vp X (r := .int b2) (As := [.int (20 + p1)]) (st := []) (c_X5_brokenAt l D cI cC cR h1 h2 h3 h4 h5 h6 h7 h8 h9 sp we le ta num (20 + p1) Z b2 hx2) vl_X0_167 yv_X5_brokenAt ⟨Nat.le_of_ble_eq_true rfl, Nat.le_of_ble_eq_true rfl⟩ ⟨rfl, rfl⟩ ⟨Nat.zero_le _, Nat.zero_le _⟩ 1 rfl rfl [1, 2, 3, 4, 5, 6, 7, 8, 9] rfl rfl rfl rfl (Nat.le_of_ble_eq_true rfl) dX0_deliveringError_19 ?_
    refine kw_if_ne X 30 dX0_deliveringError_22 (by decide) (fun q3 => ?_) (fun q3 => ?_)
    · replace hF := (if_neg q3).symm.trans hF
      refine kw_iconst X dX0_deliveringError_30 ci_0 ?_
      obtain rfl := si1 hF
      exact hret _ _ _ (vp_nar_int _) dX0_deliveringError_31
    · replace hF := (if_pos q3).symm.trans hF
      refine kw_bipush X dX0_deliveringError_25 cb_m2 ?_
      refine kw_goto X 31 dX0_deliveringError_27 (by decide) ?_
      obtain rfl := si1 hF
      exact hret _ _ _ (vp_nar_int _) dX0_deliveringError_31
  · replace hF := (if_neg q1).symm.trans hF
    refine kw_iconst X dX0_deliveringError_9 ci_m1 ?_
    obtain rfl := si1 hF
    exact hret _ _ _ (vp_nar_int _) dX0_deliveringError_10
-- X0_deliver
def f_X0_deliver_L4 (we : Nat → Int32) (num : Int32) (p1 : Int32) : Nat → Int32 → Int32 → (Nat → Int32) → (Nat → Int32) → Option (Int32 × (Nat → Int32) × (Nat → Int32))
  | 0, _, _, _, _ => none
  | F + 1, v2_32, v3_33, w34, w35 => (if v3_33 < num then (pl3 (if (f_X2_at 60 w34 v3_33) = (20 + p1) then (if (f_X5_isBroken we v3_33) = 0 then (v2_32, w34, w35) else (pl2 (f_X5_move w34 w35 v3_33 22) (fun (m46 : Nat → Int32) (m47 : Nat → Int32) => ((v2_32 + 1), m46, m47)))) else (v2_32, w34, w35)) (fun (v2_41 : Int32) (w42 : Nat → Int32) (w43 : Nat → Int32) => (f_X0_deliver_L4 we num p1 F v2_41 (v3_33 + 1) w42 w43))) else (some (v2_32, w34, w35)))
def f_X0_deliver (Z : Nat) (sp : Nat → Int32) (we : Nat → Int32) (ta : Nat → Int32) (num : Int32) (p1 : Int32) : Option (Int32 × (Nat → Int32) × (Nat → Int32)) :=
  (ob3 (f_X0_deliver_L4 we num p1 Z 0 0 sp ta) (fun (e29 : Int32) (w30 : Nat → Int32) (w31 : Nat → Int32) => (some (e29, w30, w31))))
abbrev rm_X0_deliver : Room := { frames := 2, cells := 0, slots := 0, locals := 44 }
set_option maxHeartbeats 4000000 in
set_option maxRecDepth 100000 in
theorem c_X0_deliver (l : Launch) (D : va_G) (cI cC cR : ClassId) (h0 h1 h2 h3 h4 h5 h6 h7 h8 h9 h10 h11 h12 h13 h14 h15 h16 h17 h18 h19 : Nat) (sp : Nat → Int32) (we : Nat → Int32) (le : Nat → Int32) (ta : Nat → Int32) (num : Int32) (rooms : Nat → Int32) (purses : Nat → Int32) (showers : Nat → Int32) (homes : Nat → Int32) (paid : Nat → Int32) (hours : Int32) (house : Int32) (spent : Int32) (loans : Int32) (surges : Int32) (rate : Int32) (p1 : Int32) (Z : Nat) (r : Int32) (sp' : Nat → Int32) (ta' : Nat → Int32) (hF : f_X0_deliver Z sp we ta num p1 = some (r, sp', ta')) : MEq l yX0_deliver cX0_deliver 4 (some .int) rm_X0_deliver D (TY cI cC cR) [.ref h0, .int p1] (wX0 cI h0 h1 h2 h3 h4 h5 h6 h7 h8 h9 h10 h11 h12 h13 h14 h15 h16 h17 h18 h19 sp we le ta num rooms purses showers homes paid hours house spent loans surges rate) (wX0 cI h0 h1 h2 h3 h4 h5 h6 h7 h8 h9 h10 h11 h12 h13 h14 h15 h16 h17 h18 h19 sp' we le ta' num rooms purses showers homes paid hours house spent loans surges rate) (some (.int r)) := by
  refine me_e pn_X0 (Nat.le_of_ble_eq_true rfl) rfl (fun Γ X E hret => ?_)
  unfold f_X0_deliver at hF
  refine kw_iconst X dX0_deliver_0 ci_0 ?_
  refine kw_istore_n (lo' := [(0, .ref h0), (1, .int p1), (2, .int 0)]) X dX0_deliver_1 rfl (by decide) [1, 2, 0] rfl ?_
  refine kw_iconst X dX0_deliver_2 ci_0 ?_
  refine kw_istore_n (lo' := [(0, .ref h0), (1, .int p1), (2, .int 0), (3, .int 0)]) X dX0_deliver_3 rfl (by decide) [1, 2, 3, 0] rfl ?_
  obtain ⟨e29, w30, w31, hx, hF⟩ := ob3_ex hF
  have J : KW Γ 0 0 (wX0 cI h0 h1 h2 h3 h4 h5 h6 h7 h8 h9 h10 h11 h12 h13 h14 h15 h16 h17 h18 h19 w30 we le w31 num rooms purses showers homes paid hours house spent loans surges rate) [(2, .int e29)] 63 [] := by
    refine kw_iload_n X dX0_deliver_63 rfl 0 rfl ?_
    obtain ⟨rfl, rfl, rfl⟩ := si3 hF
    exact hret _ _ (vp_nar_int _) dX0_deliver_64
  have hL4 : ∀ (F : Nat) (v2_32 : Int32) (v3_33 : Int32) (w34 : Nat → Int32) (w35 : Nat → Int32), f_X0_deliver_L4 we num p1 F v2_32 v3_33 w34 w35 = some (e29, w30, w31) → KW Γ 0 0 (wX0 cI h0 h1 h2 h3 h4 h5 h6 h7 h8 h9 h10 h11 h12 h13 h14 h15 h16 h17 h18 h19 w34 we le w35 num rooms purses showers homes paid hours house spent loans surges rate) [(0, .ref h0), (1, .int p1), (2, .int v2_32), (3, .int v3_33)] 4 [] := by
    intro F
    induction F with
    | zero => intro v2_32 v3_33 w34 w35 hF; exact none_some hF
    | succ F ih4 =>
      intro v2_32 v3_33 w34 w35 hF
      rw [f_X0_deliver_L4] at hF
      refine kw_iload_n X dX0_deliver_4 rfl 3 rfl ?_
      refine kw_aload_n X dX0_deliver_5 rfl 0 rfl ?_
      refine kw_get X inX0 0 rfl rfl 0 (by decide) rfl gw_95 rfl dX0_deliver_6 ?_
      refine kw_getN X inX5 1 rfl rfl 4 (by decide) rfl nw_8 rfl dX0_deliver_9 ?_
      refine kw_icmp_ge X 63 dX0_deliver_12 (by decide) (fun q36 => ?_) (fun q36 => ?_)
      · replace hF := (if_neg q36).symm.trans hF
        refine kw_loc (lo' := [(2, .int v2_32)]) [2] rfl ?_
        obtain ⟨rfl, rfl, rfl⟩ := si3 hF
        exact J
      · replace hF := (if_pos q36).symm.trans hF
        refine kw_aload_n X dX0_deliver_15 rfl 0 rfl ?_
        refine kw_get X inX0 0 rfl rfl 0 (by decide) rfl gw_95 rfl dX0_deliver_16 ?_
        refine kw_getN X inX5 1 rfl rfl 0 (by decide) rfl nw_3 rfl dX0_deliver_19 ?_
        refine kw_iload_n X dX0_deliver_22 rfl 3 rfl ?_
        refine kw_vp X (r := .int (f_X2_at 60 w34 v3_33)) (As := [.int v3_33]) (st := []) (c_X2_at l D cI cC cR h2 h3 60 (by decide) w34 v3_33 (f_X2_at 60 w34 v3_33) rfl) vl_X0_72 yv_X2_at ⟨Nat.le_of_ble_eq_true rfl, Nat.le_of_ble_eq_true rfl⟩ ⟨rfl, rfl⟩ ⟨Nat.zero_le _, Nat.zero_le _⟩ 2 rfl rfl [2, 3] rfl rfl rfl rfl (Nat.le_of_ble_eq_true rfl) dX0_deliver_23 ?_
        refine kw_bipush X dX0_deliver_26 cb_20 ?_
        refine kw_iload_n X dX0_deliver_28 rfl 1 rfl ?_
        refine kw_iadd X dX0_deliver_29 ?_
        obtain ⟨v2_41, w42, w43, hx44, hF⟩ := pl3_ex hF
        have J : KW Γ 0 0 (wX0 cI h0 h1 h2 h3 h4 h5 h6 h7 h8 h9 h10 h11 h12 h13 h14 h15 h16 h17 h18 h19 w42 we le w43 num rooms purses showers homes paid hours house spent loans surges rate) [(0, .ref h0), (1, .int p1), (2, .int v2_41), (3, .int v3_33)] 57 [] := by
          refine kw_iinc (lo' := [(0, .ref h0), (1, .int p1), (2, .int v2_41), (3, .int (v3_33 + 1))]) X dX0_deliver_57 3 rfl (congrArg (fun w => v3_33 + w) ci_1) (by decide) [1, 2, 3, 0] rfl ?_
          refine kw_goto X 4 dX0_deliver_60 (by decide) ?_
          exact ih4 _ _ _ _ hF
        replace hF := hx44
        refine kw_icmp_ne X 57 dX0_deliver_30 (by decide) (fun q37 => ?_) (fun q37 => ?_)
        · replace hF := (if_neg q37).symm.trans hF
          obtain ⟨rfl, rfl, rfl⟩ := ti3 hF
          exact J
        · replace hF := (if_pos q37).symm.trans hF
          refine kw_aload_n X dX0_deliver_33 rfl 0 rfl ?_
          refine kw_get X inX0 0 rfl rfl 0 (by decide) rfl gw_95 rfl dX0_deliver_34 ?_
          refine kw_iload_n X dX0_deliver_37 rfl 3 rfl ?_
          refine kw_vp X (r := .int (f_X5_isBroken we v3_33)) (As := [.int v3_33]) (st := []) (c_X5_isBroken l D cI cC cR h1 h2 h3 h4 h5 h6 h7 h8 h9 w34 we le w35 num v3_33 (f_X5_isBroken we v3_33) rfl) vl_X0_164 yv_X5_isBroken ⟨Nat.le_of_ble_eq_true rfl, Nat.le_of_ble_eq_true rfl⟩ ⟨rfl, rfl⟩ ⟨Nat.zero_le _, Nat.zero_le _⟩ 1 rfl rfl [1, 2, 3, 4, 5, 6, 7, 8, 9] rfl rfl rfl rfl (Nat.le_of_ble_eq_true rfl) dX0_deliver_38 ?_
          refine kw_if_eq X 57 dX0_deliver_41 (by decide) (fun q45 => ?_) (fun q45 => ?_)
          · replace hF := (if_pos q45).symm.trans hF
            obtain ⟨rfl, rfl, rfl⟩ := ti3 hF
            exact J
          · replace hF := (if_neg q45).symm.trans hF
            refine kw_aload_n X dX0_deliver_44 rfl 0 rfl ?_
            refine kw_get X inX0 0 rfl rfl 0 (by decide) rfl gw_95 rfl dX0_deliver_45 ?_
            refine kw_iload_n X dX0_deliver_48 rfl 3 rfl ?_
            refine kw_bipush X dX0_deliver_49 cb_22 ?_
            obtain ⟨m46, m47, hx47, hF⟩ := pl2_ex hF
            refine kw_vev X (As := [.int v3_33, .int 22]) (st := []) (ws' := wX0 cI h0 h1 h2 h3 h4 h5 h6 h7 h8 h9 h10 h11 h12 h13 h14 h15 h16 h17 h18 h19 m46 we le m47 num rooms purses showers homes paid hours house spent loans surges rate) E (c_X5_move l D cI cC cR h1 h2 h3 h4 h5 h6 h7 h8 h9 w34 we le w35 num v3_33 22 m46 m47 hx47) vl_X0_113 yv_X5_move ⟨Nat.le_of_ble_eq_true rfl, Nat.le_of_ble_eq_true rfl⟩ ⟨rfl, rfl⟩ ⟨Nat.zero_le _, Nat.zero_le _⟩ 1 rfl rfl [1, 2, 3, 4, 5, 6, 7, 8, 9] rfl rfl rfl rfl (Nat.le_of_ble_eq_true rfl) dX0_deliver_51 [h1, h2, h3, h4, h5, h6, h7, h8, h9] rfl rfl rfl ?_
            refine kw_iinc (lo' := [(0, .ref h0), (1, .int p1), (2, .int (v2_32 + 1)), (3, .int v3_33)]) X dX0_deliver_54 2 rfl (congrArg (fun w => v2_32 + w) ci_1) (by decide) [1, 2, 0, 3] rfl ?_
            obtain ⟨rfl, rfl, rfl⟩ := ti3 hF
            exact J
  exact hL4 Z _ _ _ _ hx
-- X0_mendingError
def f_X0_mendingError (Z : Nat) (ta : Nat → Int32) (rooms : Nat → Int32) (house : Int32) (p1 : Int32) : Option (Int32) :=
  (if (f_X6_outside p1 0 7) = 0 then (if (f_X5_numberAt ta 22) < 2 then (some (-2)) else (ob1 (f_X0_spendable Z ta house) (fun (b3 : Int32) => (if b3 < 3 then (some (-2)) else (if 0 < (f_X0_freeAt ta rooms p1) then (some 0) else (some (-3))))))) else (some (-1)))
abbrev rm_X0_mendingError : Room := { frames := 4, cells := 0, slots := 0, locals := 85 }
set_option maxHeartbeats 4000000 in
set_option maxRecDepth 100000 in
theorem c_X0_mendingError (l : Launch) (D : va_G) (cI cC cR : ClassId) (h0 h1 h2 h3 h4 h5 h6 h7 h8 h9 h10 h11 h12 h13 h14 h15 h16 h17 h18 h19 : Nat) (sp : Nat → Int32) (we : Nat → Int32) (le : Nat → Int32) (ta : Nat → Int32) (num : Int32) (rooms : Nat → Int32) (purses : Nat → Int32) (showers : Nat → Int32) (homes : Nat → Int32) (paid : Nat → Int32) (hours : Int32) (house : Int32) (spent : Int32) (loans : Int32) (surges : Int32) (rate : Int32) (p1 : Int32) (Z : Nat) (r : Int32) (hF : f_X0_mendingError Z ta rooms house p1 = some r) : MPi l yX0_mendingError cX0_mendingError 2 (some .int) rm_X0_mendingError D (TY cI cC cR) [.ref h0, .int p1] (wX0 cI h0 h1 h2 h3 h4 h5 h6 h7 h8 h9 h10 h11 h12 h13 h14 h15 h16 h17 h18 h19 sp we le ta num rooms purses showers homes paid hours house spent loans surges rate) (.int r) := by
  refine me_p pn_X0 (Nat.le_of_ble_eq_true rfl) rfl (fun Γ X hret => ?_)
  unfold f_X0_mendingError at hF
  refine kw_iload_n X dX0_mendingError_0 rfl 1 rfl ?_
  refine kw_iconst X dX0_mendingError_1 ci_0 ?_
  refine kw_bipush X dX0_mendingError_2 cb_7 ?_
  refine kw_snp X (r := .int (f_X6_outside p1 0 7)) (As := [.int p1, .int 0, .int 7]) (st := []) (c_X6_outside l D cI cC cR  p1 0 7 (f_X6_outside p1 0 7) rfl) nw_27 vn_X0_82 yv_X6_outside ⟨Nat.le_of_ble_eq_true rfl, Nat.le_of_ble_eq_true rfl⟩ ⟨rfl, rfl⟩ ⟨Nat.zero_le _, Nat.zero_le _⟩ [] rfl rfl rfl rfl (Nat.le_of_ble_eq_true rfl) dX0_mendingError_4 ?_
  refine kw_if_eq X 12 dX0_mendingError_7 (by decide) (fun q1 => ?_) (fun q1 => ?_)
  · replace hF := (if_pos q1).symm.trans hF
    refine kw_aload_n X dX0_mendingError_12 rfl 0 rfl ?_
    refine kw_get X inX0 0 rfl rfl 0 (by decide) rfl gw_95 rfl dX0_mendingError_13 ?_
    refine kw_bipush X dX0_mendingError_16 cb_22 ?_
    refine kw_vp X (r := .int (f_X5_numberAt ta 22)) (As := [.int 22]) (st := []) (c_X5_numberAt l D cI cC cR h1 h2 h3 h4 h5 h6 h7 h8 h9 sp we le ta num 22 (f_X5_numberAt ta 22) rfl) vl_X0_75 yv_X5_numberAt ⟨Nat.le_of_ble_eq_true rfl, Nat.le_of_ble_eq_true rfl⟩ ⟨rfl, rfl⟩ ⟨Nat.zero_le _, Nat.zero_le _⟩ 1 rfl rfl [1, 2, 3, 4, 5, 6, 7, 8, 9] rfl rfl rfl rfl (Nat.le_of_ble_eq_true rfl) dX0_mendingError_18 ?_
    refine kw_iconst X dX0_mendingError_21 ci_2 ?_
    refine kw_icmp_lt X 33 dX0_mendingError_22 (by decide) (fun q2 => ?_) (fun q2 => ?_)
    · replace hF := (if_pos q2).symm.trans hF
      refine kw_bipush X dX0_mendingError_33 cb_m2 ?_
      obtain rfl := si1 hF
      exact hret _ _ _ (vp_nar_int _) dX0_mendingError_35
    · replace hF := (if_neg q2).symm.trans hF
      refine kw_aload_n X dX0_mendingError_25 rfl 0 rfl ?_
      obtain ⟨b3, hx3, hF⟩ := ob1_ex hF
      refine kw_ap X (r := .int b3) (As := []) (st := []) (c_X0_spendable l D cI cC cR h0 h1 h2 h3 h4 h5 h6 h7 h8 h9 h10 h11 h12 h13 h14 h15 h16 h17 h18 h19 sp we le ta num rooms purses showers homes paid hours house spent loans surges rate Z b3 hx3) vl_X0_86 yv_X0_spendable ⟨Nat.le_of_ble_eq_true rfl, Nat.le_of_ble_eq_true rfl⟩ ⟨rfl, rfl⟩ ⟨Nat.zero_le _, Nat.zero_le _⟩ 0 rfl rfl rfl rfl (Nat.le_of_ble_eq_true rfl) dX0_mendingError_26 ?_
      refine kw_iconst X dX0_mendingError_29 ci_3 ?_
      refine kw_icmp_ge X 36 dX0_mendingError_30 (by decide) (fun q4 => ?_) (fun q4 => ?_)
      · replace hF := (if_neg q4).symm.trans hF
        refine kw_aload_n X dX0_mendingError_36 rfl 0 rfl ?_
        refine kw_iload_n X dX0_mendingError_37 rfl 1 rfl ?_
        refine kw_ap X (r := .int (f_X0_freeAt ta rooms p1)) (As := [.int p1]) (st := []) (c_X0_freeAt l D cI cC cR h0 h1 h2 h3 h4 h5 h6 h7 h8 h9 h10 h11 h12 h13 h14 h15 h16 h17 h18 h19 sp we le ta num rooms purses showers homes paid hours house spent loans surges rate p1 (f_X0_freeAt ta rooms p1) rfl) vl_X0_93 yv_X0_freeAt ⟨Nat.le_of_ble_eq_true rfl, Nat.le_of_ble_eq_true rfl⟩ ⟨rfl, rfl⟩ ⟨Nat.zero_le _, Nat.zero_le _⟩ 0 rfl rfl rfl rfl (Nat.le_of_ble_eq_true rfl) dX0_mendingError_38 ?_
        refine kw_if_gt X 49 dX0_mendingError_41 (by decide) (fun q5 => ?_) (fun q5 => ?_)
        · replace hF := (if_pos q5).symm.trans hF
          refine kw_iconst X dX0_mendingError_49 ci_0 ?_
          obtain rfl := si1 hF
          exact hret _ _ _ (vp_nar_int _) dX0_mendingError_50
        · replace hF := (if_neg q5).symm.trans hF
          refine kw_bipush X dX0_mendingError_44 cb_m3 ?_
          refine kw_goto X 50 dX0_mendingError_46 (by decide) ?_
          obtain rfl := si1 hF
          exact hret _ _ _ (vp_nar_int _) dX0_mendingError_50
      · replace hF := (if_pos q4).symm.trans hF
        refine kw_bipush X dX0_mendingError_33 cb_m2 ?_
        obtain rfl := si1 hF
        exact hret _ _ _ (vp_nar_int _) dX0_mendingError_35
  · replace hF := (if_neg q1).symm.trans hF
    refine kw_iconst X dX0_mendingError_10 ci_m1 ?_
    obtain rfl := si1 hF
    exact hret _ _ _ (vp_nar_int _) dX0_mendingError_11
-- X0_mendOne
def f_X0_mendOne (Z : Nat) (sp : Nat → Int32) (we : Nat → Int32) (ta : Nat → Int32) (num : Int32) (house : Int32) (spent : Int32) (p1 : Int32) : Option (Int32 × (Nat → Int32) × (Nat → Int32) × (Nat → Int32) × Int32 × Int32) :=
  (ob1 (f_X5_leastWornAt Z sp we num 22 64 (-9)) (fun (b1 : Int32) => (ob1 (f_X5_leastWornAt Z sp we num 22 64 b1) (fun (b2 : Int32) => (pl2 (f_X5_move sp ta (imin b1 b2) p1) (fun (m3 : Nat → Int32) (m4 : Nat → Int32) => (pl2 (f_X5_move m3 m4 (imax b1 b2) 23) (fun (m5 : Nat → Int32) (m6 : Nat → Int32) => (pl2 (f_X0_spend house spent 3) (fun (b7 : Int32) (b8 : Int32) => (some ((imin b1 b2), m5, (f_X2_put 60 we (imin b1 b2) ((f_X2_at 60 we b1) / 4)), m6, b7, b8))))))))))))
abbrev rm_X0_mendOne : Room := { frames := 2, cells := 0, slots := 0, locals := 47 }
set_option maxHeartbeats 4000000 in
set_option maxRecDepth 100000 in
theorem c_X0_mendOne (l : Launch) (D : va_G) (cI cC cR : ClassId) (h0 h1 h2 h3 h4 h5 h6 h7 h8 h9 h10 h11 h12 h13 h14 h15 h16 h17 h18 h19 : Nat) (sp : Nat → Int32) (we : Nat → Int32) (le : Nat → Int32) (ta : Nat → Int32) (num : Int32) (rooms : Nat → Int32) (purses : Nat → Int32) (showers : Nat → Int32) (homes : Nat → Int32) (paid : Nat → Int32) (hours : Int32) (house : Int32) (spent : Int32) (loans : Int32) (surges : Int32) (rate : Int32) (p1 : Int32) (Z : Nat) (r : Int32) (sp' : Nat → Int32) (we' : Nat → Int32) (ta' : Nat → Int32) (house' : Int32) (spent' : Int32) (hF : f_X0_mendOne Z sp we ta num house spent p1 = some (r, sp', we', ta', house', spent')) : MEq l yX0_mendOne cX0_mendOne 5 (some .int) rm_X0_mendOne D (TY cI cC cR) [.ref h0, .int p1] (wX0 cI h0 h1 h2 h3 h4 h5 h6 h7 h8 h9 h10 h11 h12 h13 h14 h15 h16 h17 h18 h19 sp we le ta num rooms purses showers homes paid hours house spent loans surges rate) (wX0 cI h0 h1 h2 h3 h4 h5 h6 h7 h8 h9 h10 h11 h12 h13 h14 h15 h16 h17 h18 h19 sp' we' le ta' num rooms purses showers homes paid hours house' spent' loans surges rate) (some (.int r)) := by
  refine me_e pn_X0 (Nat.le_of_ble_eq_true rfl) rfl (fun Γ X E hret => ?_)
  unfold f_X0_mendOne at hF
  refine kw_aload_n X dX0_mendOne_0 rfl 0 rfl ?_
  refine kw_get X inX0 0 rfl rfl 0 (by decide) rfl gw_95 rfl dX0_mendOne_1 ?_
  refine kw_bipush X dX0_mendOne_4 cb_22 ?_
  refine kw_bipush X dX0_mendOne_6 cb_64 ?_
  refine kw_bipush X dX0_mendOne_8 cb_m9 ?_
  obtain ⟨b1, hx1, hF⟩ := ob1_ex hF
  refine kw_vp X (r := .int b1) (As := [.int 22, .int 64, .int (-9)]) (st := []) (c_X5_leastWornAt l D cI cC cR h1 h2 h3 h4 h5 h6 h7 h8 h9 sp we le ta num 22 64 (-9) Z b1 hx1) vl_X0_170 yv_X5_leastWornAt ⟨Nat.le_of_ble_eq_true rfl, Nat.le_of_ble_eq_true rfl⟩ ⟨rfl, rfl⟩ ⟨Nat.zero_le _, Nat.zero_le _⟩ 1 rfl rfl [1, 2, 3, 4, 5, 6, 7, 8, 9] rfl rfl rfl rfl (Nat.le_of_ble_eq_true rfl) dX0_mendOne_10 ?_
  refine kw_istore_n (lo' := [(0, .ref h0), (1, .int p1), (2, .int b1)]) X dX0_mendOne_13 rfl (by decide) [1, 2, 0] rfl ?_
  refine kw_aload_n X dX0_mendOne_14 rfl 0 rfl ?_
  refine kw_get X inX0 0 rfl rfl 0 (by decide) rfl gw_95 rfl dX0_mendOne_15 ?_
  refine kw_bipush X dX0_mendOne_18 cb_22 ?_
  refine kw_bipush X dX0_mendOne_20 cb_64 ?_
  refine kw_iload_n X dX0_mendOne_22 rfl 2 rfl ?_
  obtain ⟨b2, hx2, hF⟩ := ob1_ex hF
  refine kw_vp X (r := .int b2) (As := [.int 22, .int 64, .int b1]) (st := []) (c_X5_leastWornAt l D cI cC cR h1 h2 h3 h4 h5 h6 h7 h8 h9 sp we le ta num 22 64 b1 Z b2 hx2) vl_X0_170 yv_X5_leastWornAt ⟨Nat.le_of_ble_eq_true rfl, Nat.le_of_ble_eq_true rfl⟩ ⟨rfl, rfl⟩ ⟨Nat.zero_le _, Nat.zero_le _⟩ 1 rfl rfl [1, 2, 3, 4, 5, 6, 7, 8, 9] rfl rfl rfl rfl (Nat.le_of_ble_eq_true rfl) dX0_mendOne_23 ?_
  refine kw_istore_n (lo' := [(0, .ref h0), (1, .int p1), (2, .int b1), (3, .int b2)]) X dX0_mendOne_26 rfl (by decide) [1, 2, 3, 0] rfl ?_
  refine kw_iload_n X dX0_mendOne_27 rfl 2 rfl ?_
  refine kw_iload_n X dX0_mendOne_28 rfl 3 rfl ?_
  refine kw_mmin X gw_418 gw_270 gw_17 gw_271 ⟨Nat.le_of_ble_eq_true rfl, Nat.le_of_ble_eq_true rfl⟩ ⟨Nat.zero_le _, Nat.zero_le _⟩ dX0_mendOne_29 ?_
  refine kw_istore (lo' := [(0, .ref h0), (1, .int p1), (2, .int b1), (3, .int b2), (4, .int (imin b1 b2))]) X dX0_mendOne_32 (by decide) [1, 2, 3, 4, 0] rfl ?_
  refine kw_aload_n X dX0_mendOne_34 rfl 0 rfl ?_
  refine kw_get X inX0 0 rfl rfl 0 (by decide) rfl gw_95 rfl dX0_mendOne_35 ?_
  refine kw_getN X inX5 1 rfl rfl 1 (by decide) rfl nw_4 rfl dX0_mendOne_38 ?_
  refine kw_iload X dX0_mendOne_41 4 rfl ?_
  refine kw_aload_n X dX0_mendOne_43 rfl 0 rfl ?_
  refine kw_get X inX0 0 rfl rfl 0 (by decide) rfl gw_95 rfl dX0_mendOne_44 ?_
  refine kw_getN X inX5 1 rfl rfl 1 (by decide) rfl nw_4 rfl dX0_mendOne_47 ?_
  refine kw_iload_n X dX0_mendOne_50 rfl 2 rfl ?_
  refine kw_vp X (r := .int (f_X2_at 60 we b1)) (As := [.int b1]) (st := [.int (imin b1 b2), .ref h4]) (c_X2_at l D cI cC cR h4 h5 60 (by decide) we b1 (f_X2_at 60 we b1) rfl) vl_X0_72 yv_X2_at ⟨Nat.le_of_ble_eq_true rfl, Nat.le_of_ble_eq_true rfl⟩ ⟨rfl, rfl⟩ ⟨Nat.zero_le _, Nat.zero_le _⟩ 4 rfl rfl [4, 5] rfl rfl rfl rfl (Nat.le_of_ble_eq_true rfl) dX0_mendOne_51 ?_
  refine kw_iconst X dX0_mendOne_54 ci_4 ?_
  refine kw_idiv X dX0_mendOne_55 (by decide) ?_
  refine kw_vev X (As := [.int (imin b1 b2), .int ((f_X2_at 60 we b1) / 4)]) (st := []) (ws' := wX0 cI h0 h1 h2 h3 h4 h5 h6 h7 h8 h9 h10 h11 h12 h13 h14 h15 h16 h17 h18 h19 sp (f_X2_put 60 we (imin b1 b2) ((f_X2_at 60 we b1) / 4)) le ta num rooms purses showers homes paid hours house spent loans surges rate) E (c_X2_put l D cI cC cR h4 h5 60 (by decide) we (imin b1 b2) ((f_X2_at 60 we b1) / 4) (f_X2_put 60 we (imin b1 b2) ((f_X2_at 60 we b1) / 4)) rfl) vl_X0_46 yv_X2_put ⟨Nat.le_of_ble_eq_true rfl, Nat.le_of_ble_eq_true rfl⟩ ⟨rfl, rfl⟩ ⟨Nat.zero_le _, Nat.zero_le _⟩ 4 rfl rfl [4, 5] rfl rfl rfl rfl (Nat.le_of_ble_eq_true rfl) dX0_mendOne_56 [h4, h5] rfl rfl rfl ?_
  refine kw_aload_n X dX0_mendOne_59 rfl 0 rfl ?_
  refine kw_get X inX0 0 rfl rfl 0 (by decide) rfl gw_95 rfl dX0_mendOne_60 ?_
  refine kw_iload X dX0_mendOne_63 4 rfl ?_
  refine kw_iload_n X dX0_mendOne_65 rfl 1 rfl ?_
  obtain ⟨m3, m4, hx4, hF⟩ := pl2_ex hF
  refine kw_vev X (As := [.int (imin b1 b2), .int p1]) (st := []) (ws' := wX0 cI h0 h1 h2 h3 h4 h5 h6 h7 h8 h9 h10 h11 h12 h13 h14 h15 h16 h17 h18 h19 m3 (f_X2_put 60 we (imin b1 b2) ((f_X2_at 60 we b1) / 4)) le m4 num rooms purses showers homes paid hours house spent loans surges rate) E (c_X5_move l D cI cC cR h1 h2 h3 h4 h5 h6 h7 h8 h9 sp (f_X2_put 60 we (imin b1 b2) ((f_X2_at 60 we b1) / 4)) le ta num (imin b1 b2) p1 m3 m4 hx4) vl_X0_113 yv_X5_move ⟨Nat.le_of_ble_eq_true rfl, Nat.le_of_ble_eq_true rfl⟩ ⟨rfl, rfl⟩ ⟨Nat.zero_le _, Nat.zero_le _⟩ 1 rfl rfl [1, 2, 3, 4, 5, 6, 7, 8, 9] rfl rfl rfl rfl (Nat.le_of_ble_eq_true rfl) dX0_mendOne_66 [h1, h2, h3, h4, h5, h6, h7, h8, h9] rfl rfl rfl ?_
  refine kw_aload_n X dX0_mendOne_69 rfl 0 rfl ?_
  refine kw_get X inX0 0 rfl rfl 0 (by decide) rfl gw_95 rfl dX0_mendOne_70 ?_
  refine kw_iload_n X dX0_mendOne_73 rfl 2 rfl ?_
  refine kw_iload_n X dX0_mendOne_74 rfl 3 rfl ?_
  refine kw_mmax X gw_580 gw_55 gw_17 gw_56 ⟨Nat.le_of_ble_eq_true rfl, Nat.le_of_ble_eq_true rfl⟩ ⟨Nat.zero_le _, Nat.zero_le _⟩ dX0_mendOne_75 ?_
  refine kw_bipush X dX0_mendOne_78 cb_23 ?_
  obtain ⟨m5, m6, hx6, hF⟩ := pl2_ex hF
  refine kw_vev X (As := [.int (imax b1 b2), .int 23]) (st := []) (ws' := wX0 cI h0 h1 h2 h3 h4 h5 h6 h7 h8 h9 h10 h11 h12 h13 h14 h15 h16 h17 h18 h19 m5 (f_X2_put 60 we (imin b1 b2) ((f_X2_at 60 we b1) / 4)) le m6 num rooms purses showers homes paid hours house spent loans surges rate) E (c_X5_move l D cI cC cR h1 h2 h3 h4 h5 h6 h7 h8 h9 m3 (f_X2_put 60 we (imin b1 b2) ((f_X2_at 60 we b1) / 4)) le m4 num (imax b1 b2) 23 m5 m6 hx6) vl_X0_113 yv_X5_move ⟨Nat.le_of_ble_eq_true rfl, Nat.le_of_ble_eq_true rfl⟩ ⟨rfl, rfl⟩ ⟨Nat.zero_le _, Nat.zero_le _⟩ 1 rfl rfl [1, 2, 3, 4, 5, 6, 7, 8, 9] rfl rfl rfl rfl (Nat.le_of_ble_eq_true rfl) dX0_mendOne_80 [h1, h2, h3, h4, h5, h6, h7, h8, h9] rfl rfl rfl ?_
  refine kw_aload_n X dX0_mendOne_83 rfl 0 rfl ?_
  refine kw_iconst X dX0_mendOne_84 ci_3 ?_
  obtain ⟨b7, b8, hx8, hF⟩ := pl2_ex hF
  refine kw_aev X (As := [.int 3]) (st := []) E (c_X0_spend l D cI cC cR h0 h1 h2 h3 h4 h5 h6 h7 h8 h9 h10 h11 h12 h13 h14 h15 h16 h17 h18 h19 m5 (f_X2_put 60 we (imin b1 b2) ((f_X2_at 60 we b1) / 4)) le m6 num rooms purses showers homes paid hours house spent loans surges rate 3 b7 b8 hx8) vl_X0_100 yv_X0_spend ⟨Nat.le_of_ble_eq_true rfl, Nat.le_of_ble_eq_true rfl⟩ ⟨rfl, rfl⟩ ⟨Nat.zero_le _, Nat.zero_le _⟩ 0 rfl rfl rfl rfl (Nat.le_of_ble_eq_true rfl) dX0_mendOne_85 ?_
  refine kw_iload X dX0_mendOne_88 4 rfl ?_
  obtain ⟨rfl, rfl, rfl, rfl, rfl, rfl⟩ := si6 hF
  exact hret _ _ (vp_nar_int _) dX0_mendOne_90
-- X0_fullest
def f_X0_fullest_L4 (ta : Nat → Int32) : Nat → Int32 → Int32 → Option (Int32)
  | 0, _, _ => none
  | F + 1, v1_12, v2_13 => (if v2_13 < 8 then (pl1 (if (f_X5_numberAt ta v1_12) < (f_X5_numberAt ta v2_13) then v2_13 else v1_12) (fun (v1_16 : Int32) => (f_X0_fullest_L4 ta F v1_16 (v2_13 + 1)))) else (some (v1_12)))
def f_X0_fullest (Z : Nat) (ta : Nat → Int32) : Option (Int32) :=
  (ob1 (f_X0_fullest_L4 ta Z 0 1) (fun (e11 : Int32) => (some e11)))
abbrev rm_X0_fullest : Room := { frames := 2, cells := 0, slots := 0, locals := 42 }
set_option maxHeartbeats 4000000 in
set_option maxRecDepth 100000 in
theorem c_X0_fullest (l : Launch) (D : va_G) (cI cC cR : ClassId) (h0 h1 h2 h3 h4 h5 h6 h7 h8 h9 h10 h11 h12 h13 h14 h15 h16 h17 h18 h19 : Nat) (sp : Nat → Int32) (we : Nat → Int32) (le : Nat → Int32) (ta : Nat → Int32) (num : Int32) (rooms : Nat → Int32) (purses : Nat → Int32) (showers : Nat → Int32) (homes : Nat → Int32) (paid : Nat → Int32) (hours : Int32) (house : Int32) (spent : Int32) (loans : Int32) (surges : Int32) (rate : Int32) (Z : Nat) (r : Int32) (hF : f_X0_fullest Z ta = some r) : MPi l yX0_fullest cX0_fullest 3 (some .int) rm_X0_fullest D (TY cI cC cR) [.ref h0] (wX0 cI h0 h1 h2 h3 h4 h5 h6 h7 h8 h9 h10 h11 h12 h13 h14 h15 h16 h17 h18 h19 sp we le ta num rooms purses showers homes paid hours house spent loans surges rate) (.int r) := by
  refine me_p pn_X0 (Nat.le_of_ble_eq_true rfl) rfl (fun Γ X hret => ?_)
  unfold f_X0_fullest at hF
  refine kw_iconst X dX0_fullest_0 ci_0 ?_
  refine kw_istore_n (lo' := [(0, .ref h0), (1, .int 0)]) X dX0_fullest_1 rfl (by decide) [1, 0] rfl ?_
  refine kw_iconst X dX0_fullest_2 ci_1 ?_
  refine kw_istore_n (lo' := [(0, .ref h0), (1, .int 0), (2, .int 1)]) X dX0_fullest_3 rfl (by decide) [1, 2, 0] rfl ?_
  obtain ⟨e11, hx, hF⟩ := ob1_ex hF
  have J : KW Γ 0 0 (wX0 cI h0 h1 h2 h3 h4 h5 h6 h7 h8 h9 h10 h11 h12 h13 h14 h15 h16 h17 h18 h19 sp we le ta num rooms purses showers homes paid hours house spent loans surges rate) [(1, .int e11)] 37 [] := by
    refine kw_iload_n X dX0_fullest_37 rfl 0 rfl ?_
    obtain rfl := si1 hF
    exact hret _ _ _ (vp_nar_int _) dX0_fullest_38
  have hL4 : ∀ (F : Nat) (v1_12 : Int32) (v2_13 : Int32), f_X0_fullest_L4 ta F v1_12 v2_13 = some (e11) → KW Γ 0 0 (wX0 cI h0 h1 h2 h3 h4 h5 h6 h7 h8 h9 h10 h11 h12 h13 h14 h15 h16 h17 h18 h19 sp we le ta num rooms purses showers homes paid hours house spent loans surges rate) [(0, .ref h0), (1, .int v1_12), (2, .int v2_13)] 4 [] := by
    intro F
    induction F with
    | zero => intro v1_12 v2_13 hF; exact none_some hF
    | succ F ih4 =>
      intro v1_12 v2_13 hF
      rw [f_X0_fullest_L4] at hF
      refine kw_iload_n X dX0_fullest_4 rfl 2 rfl ?_
      refine kw_bipush X dX0_fullest_5 cb_8 ?_
      refine kw_icmp_ge X 37 dX0_fullest_7 (by decide) (fun q14 => ?_) (fun q14 => ?_)
      · replace hF := (if_neg q14).symm.trans hF
        refine kw_loc (lo' := [(1, .int v1_12)]) [1] rfl ?_
        obtain rfl := si1 hF
        exact J
      · replace hF := (if_pos q14).symm.trans hF
        refine kw_aload_n X dX0_fullest_10 rfl 0 rfl ?_
        refine kw_get X inX0 0 rfl rfl 0 (by decide) rfl gw_95 rfl dX0_fullest_11 ?_
        refine kw_iload_n X dX0_fullest_14 rfl 2 rfl ?_
        refine kw_vp X (r := .int (f_X5_numberAt ta v2_13)) (As := [.int v2_13]) (st := []) (c_X5_numberAt l D cI cC cR h1 h2 h3 h4 h5 h6 h7 h8 h9 sp we le ta num v2_13 (f_X5_numberAt ta v2_13) rfl) vl_X0_75 yv_X5_numberAt ⟨Nat.le_of_ble_eq_true rfl, Nat.le_of_ble_eq_true rfl⟩ ⟨rfl, rfl⟩ ⟨Nat.zero_le _, Nat.zero_le _⟩ 1 rfl rfl [1, 2, 3, 4, 5, 6, 7, 8, 9] rfl rfl rfl rfl (Nat.le_of_ble_eq_true rfl) dX0_fullest_15 ?_
        refine kw_aload_n X dX0_fullest_18 rfl 0 rfl ?_
        refine kw_get X inX0 0 rfl rfl 0 (by decide) rfl gw_95 rfl dX0_fullest_19 ?_
        refine kw_iload_n X dX0_fullest_22 rfl 1 rfl ?_
        refine kw_vp X (r := .int (f_X5_numberAt ta v1_12)) (As := [.int v1_12]) (st := [.int (f_X5_numberAt ta v2_13)]) (c_X5_numberAt l D cI cC cR h1 h2 h3 h4 h5 h6 h7 h8 h9 sp we le ta num v1_12 (f_X5_numberAt ta v1_12) rfl) vl_X0_75 yv_X5_numberAt ⟨Nat.le_of_ble_eq_true rfl, Nat.le_of_ble_eq_true rfl⟩ ⟨rfl, rfl⟩ ⟨Nat.zero_le _, Nat.zero_le _⟩ 1 rfl rfl [1, 2, 3, 4, 5, 6, 7, 8, 9] rfl rfl rfl rfl (Nat.le_of_ble_eq_true rfl) dX0_fullest_23 ?_
        obtain ⟨v1_16, hx17, hF⟩ := pl1_ex hF
        have J : KW Γ 0 0 (wX0 cI h0 h1 h2 h3 h4 h5 h6 h7 h8 h9 h10 h11 h12 h13 h14 h15 h16 h17 h18 h19 sp we le ta num rooms purses showers homes paid hours house spent loans surges rate) [(0, .ref h0), (1, .int v1_16), (2, .int v2_13)] 31 [] := by
          refine kw_iinc (lo' := [(0, .ref h0), (1, .int v1_16), (2, .int (v2_13 + 1))]) X dX0_fullest_31 2 rfl (congrArg (fun w => v2_13 + w) ci_1) (by decide) [1, 2, 0] rfl ?_
          refine kw_goto X 4 dX0_fullest_34 (by decide) ?_
          exact ih4 _ _ hF
        replace hF := hx17
        refine kw_icmp_le X 31 dX0_fullest_26 (by decide) (fun q15 => ?_) (fun q15 => ?_)
        · replace hF := (if_neg q15).symm.trans hF
          obtain rfl := ti1 hF
          exact J
        · replace hF := (if_pos q15).symm.trans hF
          refine kw_iload_n X dX0_fullest_29 rfl 2 rfl ?_
          refine kw_istore_n (lo' := [(0, .ref h0), (1, .int v2_13), (2, .int v2_13)]) X dX0_fullest_30 rfl (by decide) [1, 0, 2] rfl ?_
          obtain rfl := ti1 hF
          exact J
  exact hL4 Z _ _ hx
-- X0_emptiestWithRoom
def f_X0_emptiestWithRoom_L5 (ta : Nat → Int32) (rooms : Nat → Int32) : Nat → Int32 → Int32 → Option (Int32)
  | 0, _, _ => none
  | F + 1, v1_22, v2_23 => (if v2_23 < 8 then (pl1 (if v1_22 = (-9) then 1 else (if (f_X5_numberAt ta v2_23) < (f_X5_numberAt ta v1_22) then 1 else 0)) (fun (x27 : Int32) => (pl1 (if 0 < (f_X0_freeAt ta rooms v2_23) then (if x27 = 0 then v1_22 else v2_23) else v1_22) (fun (v1_31 : Int32) => (f_X0_emptiestWithRoom_L5 ta rooms F v1_31 (v2_23 + 1)))))) else (some (v1_22)))
def f_X0_emptiestWithRoom (Z : Nat) (ta : Nat → Int32) (rooms : Nat → Int32) : Option (Int32) :=
  (ob1 (f_X0_emptiestWithRoom_L5 ta rooms Z (-9) 0) (fun (e21 : Int32) => (some e21)))
abbrev rm_X0_emptiestWithRoom : Room := { frames := 3, cells := 0, slots := 0, locals := 63 }
set_option maxHeartbeats 4000000 in
set_option maxRecDepth 100000 in
theorem c_X0_emptiestWithRoom (l : Launch) (D : va_G) (cI cC cR : ClassId) (h0 h1 h2 h3 h4 h5 h6 h7 h8 h9 h10 h11 h12 h13 h14 h15 h16 h17 h18 h19 : Nat) (sp : Nat → Int32) (we : Nat → Int32) (le : Nat → Int32) (ta : Nat → Int32) (num : Int32) (rooms : Nat → Int32) (purses : Nat → Int32) (showers : Nat → Int32) (homes : Nat → Int32) (paid : Nat → Int32) (hours : Int32) (house : Int32) (spent : Int32) (loans : Int32) (surges : Int32) (rate : Int32) (Z : Nat) (r : Int32) (hF : f_X0_emptiestWithRoom Z ta rooms = some r) : MPi l yX0_emptiestWithRoom cX0_emptiestWithRoom 4 (some .int) rm_X0_emptiestWithRoom D (TY cI cC cR) [.ref h0] (wX0 cI h0 h1 h2 h3 h4 h5 h6 h7 h8 h9 h10 h11 h12 h13 h14 h15 h16 h17 h18 h19 sp we le ta num rooms purses showers homes paid hours house spent loans surges rate) (.int r) := by
  refine me_p pn_X0 (Nat.le_of_ble_eq_true rfl) rfl (fun Γ X hret => ?_)
  unfold f_X0_emptiestWithRoom at hF
  refine kw_bipush X dX0_emptiestWithRoom_0 cb_m9 ?_
  refine kw_istore_n (lo' := [(0, .ref h0), (1, .int (-9))]) X dX0_emptiestWithRoom_2 rfl (by decide) [1, 0] rfl ?_
  refine kw_iconst X dX0_emptiestWithRoom_3 ci_0 ?_
  refine kw_istore_n (lo' := [(0, .ref h0), (1, .int (-9)), (2, .int 0)]) X dX0_emptiestWithRoom_4 rfl (by decide) [1, 2, 0] rfl ?_
  obtain ⟨e21, hx, hF⟩ := ob1_ex hF
  have J : KW Γ 0 0 (wX0 cI h0 h1 h2 h3 h4 h5 h6 h7 h8 h9 h10 h11 h12 h13 h14 h15 h16 h17 h18 h19 sp we le ta num rooms purses showers homes paid hours house spent loans surges rate) [(1, .int e21)] 62 [] := by
    refine kw_iload_n X dX0_emptiestWithRoom_62 rfl 0 rfl ?_
    obtain rfl := si1 hF
    exact hret _ _ _ (vp_nar_int _) dX0_emptiestWithRoom_63
  have hL5 : ∀ (F : Nat) (v1_22 : Int32) (v2_23 : Int32), f_X0_emptiestWithRoom_L5 ta rooms F v1_22 v2_23 = some (e21) → KW Γ 0 0 (wX0 cI h0 h1 h2 h3 h4 h5 h6 h7 h8 h9 h10 h11 h12 h13 h14 h15 h16 h17 h18 h19 sp we le ta num rooms purses showers homes paid hours house spent loans surges rate) [(0, .ref h0), (1, .int v1_22), (2, .int v2_23)] 5 [] := by
    intro F
    induction F with
    | zero => intro v1_22 v2_23 hF; exact none_some hF
    | succ F ih5 =>
      intro v1_22 v2_23 hF
      rw [f_X0_emptiestWithRoom_L5] at hF
      refine kw_iload_n X dX0_emptiestWithRoom_5 rfl 2 rfl ?_
      refine kw_bipush X dX0_emptiestWithRoom_6 cb_8 ?_
      refine kw_icmp_ge X 62 dX0_emptiestWithRoom_8 (by decide) (fun q24 => ?_) (fun q24 => ?_)
      · replace hF := (if_neg q24).symm.trans hF
        refine kw_loc (lo' := [(1, .int v1_22)]) [1] rfl ?_
        obtain rfl := si1 hF
        exact J
      · replace hF := (if_pos q24).symm.trans hF
        refine kw_iload_n X dX0_emptiestWithRoom_11 rfl 1 rfl ?_
        refine kw_bipush X dX0_emptiestWithRoom_12 cb_m9 ?_
        obtain ⟨x27, hx28, hF⟩ := pl1_ex hF
        have J : KW Γ 0 0 (wX0 cI h0 h1 h2 h3 h4 h5 h6 h7 h8 h9 h10 h11 h12 h13 h14 h15 h16 h17 h18 h19 sp we le ta num rooms purses showers homes paid hours house spent loans surges rate) [(0, .ref h0), (1, .int v1_22), (2, .int v2_23)] 41 [.int x27] := by
          refine kw_istore_n (lo' := [(0, .ref h0), (1, .int v1_22), (2, .int v2_23), (3, .int x27)]) X dX0_emptiestWithRoom_41 rfl (by decide) [1, 2, 3, 0] rfl ?_
          refine kw_aload_n X dX0_emptiestWithRoom_42 rfl 0 rfl ?_
          refine kw_iload_n X dX0_emptiestWithRoom_43 rfl 2 rfl ?_
          refine kw_ap X (r := .int (f_X0_freeAt ta rooms v2_23)) (As := [.int v2_23]) (st := []) (c_X0_freeAt l D cI cC cR h0 h1 h2 h3 h4 h5 h6 h7 h8 h9 h10 h11 h12 h13 h14 h15 h16 h17 h18 h19 sp we le ta num rooms purses showers homes paid hours house spent loans surges rate v2_23 (f_X0_freeAt ta rooms v2_23) rfl) vl_X0_93 yv_X0_freeAt ⟨Nat.le_of_ble_eq_true rfl, Nat.le_of_ble_eq_true rfl⟩ ⟨rfl, rfl⟩ ⟨Nat.zero_le _, Nat.zero_le _⟩ 0 rfl rfl rfl rfl (Nat.le_of_ble_eq_true rfl) dX0_emptiestWithRoom_44 ?_
          obtain ⟨v1_31, hx32, hF⟩ := pl1_ex hF
          have J : KW Γ 0 0 (wX0 cI h0 h1 h2 h3 h4 h5 h6 h7 h8 h9 h10 h11 h12 h13 h14 h15 h16 h17 h18 h19 sp we le ta num rooms purses showers homes paid hours house spent loans surges rate) [(0, .ref h0), (1, .int v1_31), (2, .int v2_23)] 56 [] := by
            refine kw_iinc (lo' := [(0, .ref h0), (1, .int v1_31), (2, .int (v2_23 + 1))]) X dX0_emptiestWithRoom_56 2 rfl (congrArg (fun w => v2_23 + w) ci_1) (by decide) [1, 2, 0] rfl ?_
            refine kw_goto X 5 dX0_emptiestWithRoom_59 (by decide) ?_
            exact ih5 _ _ hF
          replace hF := hx32
          refine kw_if_le X 56 dX0_emptiestWithRoom_47 (by decide) (fun q29 => ?_) (fun q29 => ?_)
          · replace hF := (if_neg q29).symm.trans hF
            refine kw_loc (lo' := [(0, .ref h0), (1, .int v1_22), (2, .int v2_23)]) [0, 1, 2] rfl ?_
            obtain rfl := ti1 hF
            exact J
          · replace hF := (if_pos q29).symm.trans hF
            refine kw_iload_n X dX0_emptiestWithRoom_50 rfl 3 rfl ?_
            refine kw_if_eq X 56 dX0_emptiestWithRoom_51 (by decide) (fun q33 => ?_) (fun q33 => ?_)
            · replace hF := (if_pos q33).symm.trans hF
              refine kw_loc (lo' := [(0, .ref h0), (1, .int v1_22), (2, .int v2_23)]) [0, 1, 2] rfl ?_
              obtain rfl := ti1 hF
              exact J
            · replace hF := (if_neg q33).symm.trans hF
              refine kw_iload_n X dX0_emptiestWithRoom_54 rfl 2 rfl ?_
              refine kw_istore_n (lo' := [(0, .ref h0), (1, .int v2_23), (2, .int v2_23), (3, .int x27)]) X dX0_emptiestWithRoom_55 rfl (by decide) [1, 0, 2, 3] rfl ?_
              refine kw_loc (lo' := [(0, .ref h0), (1, .int v2_23), (2, .int v2_23)]) [0, 1, 2] rfl ?_
              obtain rfl := ti1 hF
              exact J
        replace hF := hx28
        refine kw_icmp_eq X 36 dX0_emptiestWithRoom_14 (by decide) (fun q25 => ?_) (fun q25 => ?_)
        · replace hF := (if_pos q25).symm.trans hF
          refine kw_iconst X dX0_emptiestWithRoom_36 ci_1 ?_
          refine kw_goto X 41 dX0_emptiestWithRoom_37 (by decide) ?_
          obtain rfl := ti1 hF
          exact J
        · replace hF := (if_neg q25).symm.trans hF
          refine kw_aload_n X dX0_emptiestWithRoom_17 rfl 0 rfl ?_
          refine kw_get X inX0 0 rfl rfl 0 (by decide) rfl gw_95 rfl dX0_emptiestWithRoom_18 ?_
          refine kw_iload_n X dX0_emptiestWithRoom_21 rfl 2 rfl ?_
          refine kw_vp X (r := .int (f_X5_numberAt ta v2_23)) (As := [.int v2_23]) (st := []) (c_X5_numberAt l D cI cC cR h1 h2 h3 h4 h5 h6 h7 h8 h9 sp we le ta num v2_23 (f_X5_numberAt ta v2_23) rfl) vl_X0_75 yv_X5_numberAt ⟨Nat.le_of_ble_eq_true rfl, Nat.le_of_ble_eq_true rfl⟩ ⟨rfl, rfl⟩ ⟨Nat.zero_le _, Nat.zero_le _⟩ 1 rfl rfl [1, 2, 3, 4, 5, 6, 7, 8, 9] rfl rfl rfl rfl (Nat.le_of_ble_eq_true rfl) dX0_emptiestWithRoom_22 ?_
          refine kw_aload_n X dX0_emptiestWithRoom_25 rfl 0 rfl ?_
          refine kw_get X inX0 0 rfl rfl 0 (by decide) rfl gw_95 rfl dX0_emptiestWithRoom_26 ?_
          refine kw_iload_n X dX0_emptiestWithRoom_29 rfl 1 rfl ?_
          refine kw_vp X (r := .int (f_X5_numberAt ta v1_22)) (As := [.int v1_22]) (st := [.int (f_X5_numberAt ta v2_23)]) (c_X5_numberAt l D cI cC cR h1 h2 h3 h4 h5 h6 h7 h8 h9 sp we le ta num v1_22 (f_X5_numberAt ta v1_22) rfl) vl_X0_75 yv_X5_numberAt ⟨Nat.le_of_ble_eq_true rfl, Nat.le_of_ble_eq_true rfl⟩ ⟨rfl, rfl⟩ ⟨Nat.zero_le _, Nat.zero_le _⟩ 1 rfl rfl [1, 2, 3, 4, 5, 6, 7, 8, 9] rfl rfl rfl rfl (Nat.le_of_ble_eq_true rfl) dX0_emptiestWithRoom_30 ?_
          refine kw_icmp_ge X 40 dX0_emptiestWithRoom_33 (by decide) (fun q34 => ?_) (fun q34 => ?_)
          · replace hF := (if_neg q34).symm.trans hF
            refine kw_iconst X dX0_emptiestWithRoom_40 ci_0 ?_
            obtain rfl := ti1 hF
            exact J
          · replace hF := (if_pos q34).symm.trans hF
            refine kw_iconst X dX0_emptiestWithRoom_36 ci_1 ?_
            refine kw_goto X 41 dX0_emptiestWithRoom_37 (by decide) ?_
            obtain rfl := ti1 hF
            exact J
  exact hL5 Z _ _ hx
-- X0_evenOut
def f_X0_evenOut_L2 (Z : Nat) (we : Nat → Int32) (num : Int32) (rooms : Nat → Int32) : Nat → Int32 → (Nat → Int32) → (Nat → Int32) → Option (Int32 × (Nat → Int32) × (Nat → Int32))
  | 0, _, _, _ => none
  | F + 1, v1_33, w34, w35 => (if v1_33 < 1000000 then (ob1 (f_X0_fullest Z w35) (fun (b37 : Int32) => (ob1 (f_X0_emptiestWithRoom Z w35 rooms) (fun (b38 : Int32) => (ob1 (f_X5_bestAt Z w34 we num b37) (fun (b39 : Int32) => (pl1 (if b38 = (-9) then 0 else (if ((f_X5_numberAt w35 b37) - (f_X5_numberAt w35 b38)) < 2 then 0 else 1)) (fun (x42 : Int32) => (if x42 = 0 then (some (v1_33, w34, w35)) else (if b39 = (-9) then (some (v1_33, w34, w35)) else (pl2 (f_X5_move w34 w35 b39 b38) (fun (m46 : Nat → Int32) (m47 : Nat → Int32) => (f_X0_evenOut_L2 Z we num rooms F (v1_33 + 1) m46 m47))))))))))))) else (some (v1_33, w34, w35)))
def f_X0_evenOut (Z : Nat) (sp : Nat → Int32) (we : Nat → Int32) (ta : Nat → Int32) (num : Int32) (rooms : Nat → Int32) : Option (Int32 × (Nat → Int32) × (Nat → Int32)) :=
  (ob3 (f_X0_evenOut_L2 Z we num rooms Z 0 sp ta) (fun (e30 : Int32) (w31 : Nat → Int32) (w32 : Nat → Int32) => (some (e30, w31, w32))))
abbrev rm_X0_evenOut : Room := { frames := 4, cells := 0, slots := 0, locals := 86 }
set_option maxHeartbeats 4000000 in
set_option maxRecDepth 100000 in
theorem c_X0_evenOut (l : Launch) (D : va_G) (cI cC cR : ClassId) (h0 h1 h2 h3 h4 h5 h6 h7 h8 h9 h10 h11 h12 h13 h14 h15 h16 h17 h18 h19 : Nat) (sp : Nat → Int32) (we : Nat → Int32) (le : Nat → Int32) (ta : Nat → Int32) (num : Int32) (rooms : Nat → Int32) (purses : Nat → Int32) (showers : Nat → Int32) (homes : Nat → Int32) (paid : Nat → Int32) (hours : Int32) (house : Int32) (spent : Int32) (loans : Int32) (surges : Int32) (rate : Int32) (Z : Nat) (r : Int32) (sp' : Nat → Int32) (ta' : Nat → Int32) (hF : f_X0_evenOut Z sp we ta num rooms = some (r, sp', ta')) : MEq l yX0_evenOut cX0_evenOut 6 (some .int) rm_X0_evenOut D (TY cI cC cR) [.ref h0] (wX0 cI h0 h1 h2 h3 h4 h5 h6 h7 h8 h9 h10 h11 h12 h13 h14 h15 h16 h17 h18 h19 sp we le ta num rooms purses showers homes paid hours house spent loans surges rate) (wX0 cI h0 h1 h2 h3 h4 h5 h6 h7 h8 h9 h10 h11 h12 h13 h14 h15 h16 h17 h18 h19 sp' we le ta' num rooms purses showers homes paid hours house spent loans surges rate) (some (.int r)) := by
  refine me_e pn_X0 (Nat.le_of_ble_eq_true rfl) rfl (fun Γ X E hret => ?_)
  unfold f_X0_evenOut at hF
  refine kw_iconst X dX0_evenOut_0 ci_0 ?_
  refine kw_istore_n (lo' := [(0, .ref h0), (1, .int 0)]) X dX0_evenOut_1 rfl (by decide) [1, 0] rfl ?_
  obtain ⟨e30, w31, w32, hx, hF⟩ := ob3_ex hF
  have J : KW Γ 0 0 (wX0 cI h0 h1 h2 h3 h4 h5 h6 h7 h8 h9 h10 h11 h12 h13 h14 h15 h16 h17 h18 h19 w31 we le w32 num rooms purses showers homes paid hours house spent loans surges rate) [(1, .int e30)] 93 [] := by
    refine kw_iload_n X dX0_evenOut_93 rfl 0 rfl ?_
    obtain ⟨rfl, rfl, rfl⟩ := si3 hF
    exact hret _ _ (vp_nar_int _) dX0_evenOut_94
  have hL2 : ∀ (F : Nat) (v1_33 : Int32) (w34 : Nat → Int32) (w35 : Nat → Int32), f_X0_evenOut_L2 Z we num rooms F v1_33 w34 w35 = some (e30, w31, w32) → KW Γ 0 0 (wX0 cI h0 h1 h2 h3 h4 h5 h6 h7 h8 h9 h10 h11 h12 h13 h14 h15 h16 h17 h18 h19 w34 we le w35 num rooms purses showers homes paid hours house spent loans surges rate) [(0, .ref h0), (1, .int v1_33)] 2 [] := by
    intro F
    induction F with
    | zero => intro v1_33 w34 w35 hF; exact none_some hF
    | succ F ih2 =>
      intro v1_33 w34 w35 hF
      rw [f_X0_evenOut_L2] at hF
      refine kw_iload_n X dX0_evenOut_2 rfl 1 rfl ?_
      refine kw_ldc X dX0_evenOut_3 gw_589 ?_
      refine kw_icmp_ge X 93 dX0_evenOut_5 (by decide) (fun q36 => ?_) (fun q36 => ?_)
      · replace hF := (if_neg q36).symm.trans hF
        refine kw_loc (lo' := [(1, .int v1_33)]) [1] rfl ?_
        obtain ⟨rfl, rfl, rfl⟩ := si3 hF
        exact J
      · replace hF := (if_pos q36).symm.trans hF
        refine kw_aload_n X dX0_evenOut_8 rfl 0 rfl ?_
        obtain ⟨b37, hx37, hF⟩ := ob1_ex hF
        refine kw_ap X (r := .int b37) (As := []) (st := []) (c_X0_fullest l D cI cC cR h0 h1 h2 h3 h4 h5 h6 h7 h8 h9 h10 h11 h12 h13 h14 h15 h16 h17 h18 h19 w34 we le w35 num rooms purses showers homes paid hours house spent loans surges rate Z b37 hx37) vl_X0_177 yv_X0_fullest ⟨Nat.le_of_ble_eq_true rfl, Nat.le_of_ble_eq_true rfl⟩ ⟨rfl, rfl⟩ ⟨Nat.zero_le _, Nat.zero_le _⟩ 0 rfl rfl rfl rfl (Nat.le_of_ble_eq_true rfl) dX0_evenOut_9 ?_
        refine kw_istore_n (lo' := [(0, .ref h0), (1, .int v1_33), (2, .int b37)]) X dX0_evenOut_12 rfl (by decide) [1, 2, 0] rfl ?_
        refine kw_aload_n X dX0_evenOut_13 rfl 0 rfl ?_
        obtain ⟨b38, hx38, hF⟩ := ob1_ex hF
        refine kw_ap X (r := .int b38) (As := []) (st := []) (c_X0_emptiestWithRoom l D cI cC cR h0 h1 h2 h3 h4 h5 h6 h7 h8 h9 h10 h11 h12 h13 h14 h15 h16 h17 h18 h19 w34 we le w35 num rooms purses showers homes paid hours house spent loans surges rate Z b38 hx38) vl_X0_180 yv_X0_emptiestWithRoom ⟨Nat.le_of_ble_eq_true rfl, Nat.le_of_ble_eq_true rfl⟩ ⟨rfl, rfl⟩ ⟨Nat.zero_le _, Nat.zero_le _⟩ 0 rfl rfl rfl rfl (Nat.le_of_ble_eq_true rfl) dX0_evenOut_14 ?_
        refine kw_istore_n (lo' := [(0, .ref h0), (1, .int v1_33), (2, .int b37), (3, .int b38)]) X dX0_evenOut_17 rfl (by decide) [1, 2, 3, 0] rfl ?_
        refine kw_aload_n X dX0_evenOut_18 rfl 0 rfl ?_
        refine kw_get X inX0 0 rfl rfl 0 (by decide) rfl gw_95 rfl dX0_evenOut_19 ?_
        refine kw_iload_n X dX0_evenOut_22 rfl 2 rfl ?_
        obtain ⟨b39, hx39, hF⟩ := ob1_ex hF
        refine kw_vp X (r := .int b39) (As := [.int b37]) (st := []) (c_X5_bestAt l D cI cC cR h1 h2 h3 h4 h5 h6 h7 h8 h9 w34 we le w35 num b37 Z b39 hx39) vl_X0_107 yv_X5_bestAt ⟨Nat.le_of_ble_eq_true rfl, Nat.le_of_ble_eq_true rfl⟩ ⟨rfl, rfl⟩ ⟨Nat.zero_le _, Nat.zero_le _⟩ 1 rfl rfl [1, 2, 3, 4, 5, 6, 7, 8, 9] rfl rfl rfl rfl (Nat.le_of_ble_eq_true rfl) dX0_evenOut_23 ?_
        refine kw_istore (lo' := [(0, .ref h0), (1, .int v1_33), (2, .int b37), (3, .int b38), (4, .int b39)]) X dX0_evenOut_26 (by decide) [1, 2, 3, 4, 0] rfl ?_
        refine kw_iload_n X dX0_evenOut_28 rfl 3 rfl ?_
        refine kw_bipush X dX0_evenOut_29 cb_m9 ?_
        obtain ⟨x42, hx43, hF⟩ := pl1_ex hF
        have J : KW Γ 0 0 (wX0 cI h0 h1 h2 h3 h4 h5 h6 h7 h8 h9 h10 h11 h12 h13 h14 h15 h16 h17 h18 h19 w34 we le w35 num rooms purses showers homes paid hours house spent loans surges rate) [(0, .ref h0), (1, .int v1_33), (3, .int b38), (4, .int b39)] 60 [.int x42] := by
          refine kw_istore (lo' := [(0, .ref h0), (1, .int v1_33), (3, .int b38), (4, .int b39), (5, .int x42)]) X dX0_evenOut_60 (by decide) [1, 2, 3, 4, 0] rfl ?_
          refine kw_iload X dX0_evenOut_62 4 rfl ?_
          refine kw_if_eq X 93 dX0_evenOut_64 (by decide) (fun q44 => ?_) (fun q44 => ?_)
          · replace hF := (if_pos q44).symm.trans hF
            refine kw_loc (lo' := [(1, .int v1_33)]) [1] rfl ?_
            obtain ⟨rfl, rfl, rfl⟩ := si3 hF
            exact J
          · replace hF := (if_neg q44).symm.trans hF
            refine kw_iload X dX0_evenOut_67 3 rfl ?_
            refine kw_bipush X dX0_evenOut_69 cb_m9 ?_
            refine kw_icmp_ne X 77 dX0_evenOut_71 (by decide) (fun q45 => ?_) (fun q45 => ?_)
            · replace hF := (if_neg q45).symm.trans hF
              refine kw_aload_n X dX0_evenOut_77 rfl 0 rfl ?_
              refine kw_get X inX0 0 rfl rfl 0 (by decide) rfl gw_95 rfl dX0_evenOut_78 ?_
              refine kw_iload X dX0_evenOut_81 3 rfl ?_
              refine kw_iload_n X dX0_evenOut_83 rfl 2 rfl ?_
              obtain ⟨m46, m47, hx47, hF⟩ := pl2_ex hF
              refine kw_vev X (As := [.int b39, .int b38]) (st := []) (ws' := wX0 cI h0 h1 h2 h3 h4 h5 h6 h7 h8 h9 h10 h11 h12 h13 h14 h15 h16 h17 h18 h19 m46 we le m47 num rooms purses showers homes paid hours house spent loans surges rate) E (c_X5_move l D cI cC cR h1 h2 h3 h4 h5 h6 h7 h8 h9 w34 we le w35 num b39 b38 m46 m47 hx47) vl_X0_113 yv_X5_move ⟨Nat.le_of_ble_eq_true rfl, Nat.le_of_ble_eq_true rfl⟩ ⟨rfl, rfl⟩ ⟨Nat.zero_le _, Nat.zero_le _⟩ 1 rfl rfl [1, 2, 3, 4, 5, 6, 7, 8, 9] rfl rfl rfl rfl (Nat.le_of_ble_eq_true rfl) dX0_evenOut_84 [h1, h2, h3, h4, h5, h6, h7, h8, h9] rfl rfl rfl ?_
              refine kw_iinc (lo' := [(0, .ref h0), (1, .int (v1_33 + 1)), (3, .int b38), (4, .int b39), (5, .int x42)]) X dX0_evenOut_87 1 rfl (congrArg (fun w => v1_33 + w) ci_1) (by decide) [1, 0, 2, 3, 4] rfl ?_
              refine kw_goto X 2 dX0_evenOut_90 (by decide) ?_
              refine kw_loc (lo' := [(0, .ref h0), (1, .int (v1_33 + 1))]) [0, 1] rfl ?_
              exact ih2 _ _ _ hF
            · replace hF := (if_pos q45).symm.trans hF
              refine kw_goto X 93 dX0_evenOut_74 (by decide) ?_
              refine kw_loc (lo' := [(1, .int v1_33)]) [1] rfl ?_
              obtain ⟨rfl, rfl, rfl⟩ := si3 hF
              exact J
        replace hF := hx43
        refine kw_icmp_eq X 59 dX0_evenOut_31 (by decide) (fun q40 => ?_) (fun q40 => ?_)
        · replace hF := (if_pos q40).symm.trans hF
          refine kw_iconst X dX0_evenOut_59 ci_0 ?_
          refine kw_loc (lo' := [(0, .ref h0), (1, .int v1_33), (3, .int b38), (4, .int b39)]) [0, 1, 3, 4] rfl ?_
          obtain rfl := ti1 hF
          exact J
        · replace hF := (if_neg q40).symm.trans hF
          refine kw_aload_n X dX0_evenOut_34 rfl 0 rfl ?_
          refine kw_get X inX0 0 rfl rfl 0 (by decide) rfl gw_95 rfl dX0_evenOut_35 ?_
          refine kw_iload_n X dX0_evenOut_38 rfl 2 rfl ?_
          refine kw_vp X (r := .int (f_X5_numberAt w35 b37)) (As := [.int b37]) (st := []) (c_X5_numberAt l D cI cC cR h1 h2 h3 h4 h5 h6 h7 h8 h9 w34 we le w35 num b37 (f_X5_numberAt w35 b37) rfl) vl_X0_75 yv_X5_numberAt ⟨Nat.le_of_ble_eq_true rfl, Nat.le_of_ble_eq_true rfl⟩ ⟨rfl, rfl⟩ ⟨Nat.zero_le _, Nat.zero_le _⟩ 1 rfl rfl [1, 2, 3, 4, 5, 6, 7, 8, 9] rfl rfl rfl rfl (Nat.le_of_ble_eq_true rfl) dX0_evenOut_39 ?_
          refine kw_aload_n X dX0_evenOut_42 rfl 0 rfl ?_
          refine kw_get X inX0 0 rfl rfl 0 (by decide) rfl gw_95 rfl dX0_evenOut_43 ?_
          refine kw_iload_n X dX0_evenOut_46 rfl 3 rfl ?_
          refine kw_vp X (r := .int (f_X5_numberAt w35 b38)) (As := [.int b38]) (st := [.int (f_X5_numberAt w35 b37)]) (c_X5_numberAt l D cI cC cR h1 h2 h3 h4 h5 h6 h7 h8 h9 w34 we le w35 num b38 (f_X5_numberAt w35 b38) rfl) vl_X0_75 yv_X5_numberAt ⟨Nat.le_of_ble_eq_true rfl, Nat.le_of_ble_eq_true rfl⟩ ⟨rfl, rfl⟩ ⟨Nat.zero_le _, Nat.zero_le _⟩ 1 rfl rfl [1, 2, 3, 4, 5, 6, 7, 8, 9] rfl rfl rfl rfl (Nat.le_of_ble_eq_true rfl) dX0_evenOut_47 ?_
          refine kw_isub X dX0_evenOut_50 ?_
          refine kw_iconst X dX0_evenOut_51 ci_2 ?_
          refine kw_icmp_lt X 59 dX0_evenOut_52 (by decide) (fun q48 => ?_) (fun q48 => ?_)
          · replace hF := (if_pos q48).symm.trans hF
            refine kw_iconst X dX0_evenOut_59 ci_0 ?_
            refine kw_loc (lo' := [(0, .ref h0), (1, .int v1_33), (3, .int b38), (4, .int b39)]) [0, 1, 3, 4] rfl ?_
            obtain rfl := ti1 hF
            exact J
          · replace hF := (if_neg q48).symm.trans hF
            refine kw_iconst X dX0_evenOut_55 ci_1 ?_
            refine kw_goto X 60 dX0_evenOut_56 (by decide) ?_
            refine kw_loc (lo' := [(0, .ref h0), (1, .int v1_33), (3, .int b38), (4, .int b39)]) [0, 1, 3, 4] rfl ?_
            obtain rfl := ti1 hF
            exact J
  exact hL2 Z _ _ _ hx
