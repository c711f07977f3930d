-- X2_copyFrom
def f_X2_copyFrom (N : Nat) (o_c : Nat → Int32) : (Nat → Int32) :=
  o_c
abbrev rm_X2_copyFrom : Room := { frames := 1, cells := 0, slots := 0, locals := 26 }
set_option maxHeartbeats 4000000 in
set_option maxRecDepth 100000 in
theorem c_X2_copyFrom (l : Launch) (D : va_G) (cI cC cR : ClassId) (h0 h1 h2 h3 : Nat) (N : Nat) (hN : N < 2 ^ 31) (c : Nat → Int32) (o_c : Nat → Int32) (c' : Nat → Int32) (hF : f_X2_copyFrom N o_c = c') : MEq l yX2_copyFrom cX2_copyFrom 2 none rm_X2_copyFrom D (TY cI cC cR) [.ref h0, .ref h2] (wX2 cI h0 h1 N c ++ wX2 cI h2 h3 N o_c) (wX2 cI h0 h1 N c' ++ wX2 cI h2 h3 N o_c) none := by
  refine me_v pn_X2 (Nat.le_of_ble_eq_true rfl) rfl (fun Γ X E hret => ?_)
  unfold f_X2_copyFrom at hF
  refine kw_aload_n X dX2_copyFrom_0 rfl 1 rfl ?_
  refine kw_get X inX2 2 rfl rfl 0 (by decide) rfl gw_60 rfl dX2_copyFrom_1 ?_
  refine kw_iconst X dX2_copyFrom_4 ci_0 ?_
  refine kw_aload_n X dX2_copyFrom_5 rfl 0 rfl ?_
  refine kw_get X inX2 0 rfl rfl 0 (by decide) rfl gw_60 rfl dX2_copyFrom_6 ?_
  refine kw_iconst X dX2_copyFrom_9 ci_0 ?_
  refine kw_aload_n X dX2_copyFrom_10 rfl 0 rfl ?_
  refine kw_get X inX2 0 rfl rfl 0 (by decide) rfl gw_60 rfl dX2_copyFrom_11 ?_
  refine kw_alen (v := (nI N)) X 1 0 rfl rfl rfl dX2_copyFrom_14 ?_
  refine kw_aload_n X dX2_copyFrom_15 rfl 1 rfl ?_
  refine kw_get X inX2 2 rfl rfl 0 (by decide) rfl gw_60 rfl dX2_copyFrom_16 ?_
  refine kw_alen (v := (nI N)) X 3 0 rfl rfl rfl dX2_copyFrom_19 ?_
  refine kw_mmin X gw_269 gw_270 gw_17 gw_271 ⟨Nat.le_of_ble_eq_true rfl, Nat.le_of_ble_eq_true rfl⟩ ⟨Nat.zero_le _, Nat.zero_le _⟩ dX2_copyFrom_20 ?_
  refine kw_copy X (ws' := wX2 cI h0 h1 N o_c ++ wX2 cI h2 h3 N o_c) E gw_272 gw_274 gw_273 gw_21 3 1 0 rfl rfl rfl (cpy_neg hN) (cpy_n hN) ⟨Nat.le_of_ble_eq_true rfl, Nat.le_of_ble_eq_true rfl⟩ rfl dX2_copyFrom_23 ?_
  obtain rfl := ti1 hF
  exact hret _ _ dX2_copyFrom_26
-- X5_copyFrom
def f_X5_copyFrom (o_sp : Nat → Int32) (o_we : Nat → Int32) (o_le : Nat → Int32) (o_ta : Nat → Int32) (o_num : Int32) : (Nat → Int32) × (Nat → Int32) × (Nat → Int32) × (Nat → Int32) × Int32 :=
  ((f_X2_copyFrom 60 o_sp), (f_X2_copyFrom 60 o_we), (f_X2_copyFrom 60 o_le), (f_X2_copyFrom 24 o_ta), o_num)
abbrev rm_X5_copyFrom : Room := { frames := 2, cells := 0, slots := 0, locals := 47 }
set_option maxHeartbeats 4000000 in
set_option maxRecDepth 100000 in
theorem c_X5_copyFrom (l : Launch) (D : va_G) (cI cC cR : ClassId) (h0 h1 h2 h3 h4 h5 h6 h7 h8 h9 h10 h11 h12 h13 h14 h15 h16 h17 : Nat) (sp : Nat → Int32) (we : Nat → Int32) (le : Nat → Int32) (ta : Nat → Int32) (num : Int32) (o_sp : Nat → Int32) (o_we : Nat → Int32) (o_le : Nat → Int32) (o_ta : Nat → Int32) (o_num : Int32) (sp' : Nat → Int32) (we' : Nat → Int32) (le' : Nat → Int32) (ta' : Nat → Int32) (num' : Int32) (hF : f_X5_copyFrom o_sp o_we o_le o_ta o_num = (sp', we', le', ta', num')) : MEq l yX5_copyFrom cX5_copyFrom 2 none rm_X5_copyFrom D (TY cI cC cR) [.ref h0, .ref h9] (wX5 cI h0 h1 h2 h3 h4 h5 h6 h7 h8 sp we le ta num ++ wX5 cI h9 h10 h11 h12 h13 h14 h15 h16 h17 o_sp o_we o_le o_ta o_num) (wX5 cI h0 h1 h2 h3 h4 h5 h6 h7 h8 sp' we' le' ta' num' ++ wX5 cI h9 h10 h11 h12 h13 h14 h15 h16 h17 o_sp o_we o_le o_ta o_num) none := by
  refine me_v pn_X5 (Nat.le_of_ble_eq_true rfl) rfl (fun Γ X E hret => ?_)
  unfold f_X5_copyFrom at hF
  refine kw_aload_n X dX5_copyFrom_0 rfl 0 rfl ?_
  refine kw_get X inX5 0 rfl rfl 0 (by decide) rfl gw_65 rfl dX5_copyFrom_1 ?_
  refine kw_aload_n X dX5_copyFrom_4 rfl 1 rfl ?_
  refine kw_get X inX5 9 rfl rfl 0 (by decide) rfl gw_65 rfl dX5_copyFrom_5 ?_
  refine kw_vev X (As := [.ref h10]) (st := []) (ws' := wX5 cI h0 h1 h2 h3 h4 h5 h6 h7 h8 (f_X2_copyFrom 60 o_sp) we le ta num ++ wX5 cI h9 h10 h11 h12 h13 h14 h15 h16 h17 o_sp o_we o_le o_ta o_num) E (c_X2_copyFrom l D cI cC cR h1 h2 h10 h11 60 (by decide) sp o_sp (f_X2_copyFrom 60 o_sp) rfl) vl_X5_29 yv_X2_copyFrom ⟨Nat.le_of_ble_eq_true rfl, Nat.le_of_ble_eq_true rfl⟩ ⟨rfl, rfl⟩ ⟨Nat.zero_le _, Nat.zero_le _⟩ 1 rfl rfl [1, 2, 10, 11] rfl rfl rfl rfl (Nat.le_of_ble_eq_true rfl) dX5_copyFrom_8 [h1, h2, h10, h11] rfl rfl rfl ?_
  refine kw_aload_n X dX5_copyFrom_11 rfl 0 rfl ?_
  refine kw_get X inX5 0 rfl rfl 1 (by decide) rfl gw_68 rfl dX5_copyFrom_12 ?_
  refine kw_aload_n X dX5_copyFrom_15 rfl 1 rfl ?_
  refine kw_get X inX5 9 rfl rfl 1 (by decide) rfl gw_68 rfl dX5_copyFrom_16 ?_
  refine kw_vev X (As := [.ref h12]) (st := []) (ws' := wX5 cI h0 h1 h2 h3 h4 h5 h6 h7 h8 (f_X2_copyFrom 60 o_sp) (f_X2_copyFrom 60 o_we) le ta num ++ wX5 cI h9 h10 h11 h12 h13 h14 h15 h16 h17 o_sp o_we o_le o_ta o_num) E (c_X2_copyFrom l D cI cC cR h3 h4 h12 h13 60 (by decide) we o_we (f_X2_copyFrom 60 o_we) rfl) vl_X5_29 yv_X2_copyFrom ⟨Nat.le_of_ble_eq_true rfl, Nat.le_of_ble_eq_true rfl⟩ ⟨rfl, rfl⟩ ⟨Nat.zero_le _, Nat.zero_le _⟩ 3 rfl rfl [3, 4, 12, 13] rfl rfl rfl rfl (Nat.le_of_ble_eq_true rfl) dX5_copyFrom_19 [h3, h4, h12, h13] rfl rfl rfl ?_
  refine kw_aload_n X dX5_copyFrom_22 rfl 0 rfl ?_
  refine kw_get X inX5 0 rfl rfl 2 (by decide) rfl gw_71 rfl dX5_copyFrom_23 ?_
  refine kw_aload_n X dX5_copyFrom_26 rfl 1 rfl ?_
  refine kw_get X inX5 9 rfl rfl 2 (by decide) rfl gw_71 rfl dX5_copyFrom_27 ?_
  refine kw_vev X (As := [.ref h14]) (st := []) (ws' := wX5 cI h0 h1 h2 h3 h4 h5 h6 h7 h8 (f_X2_copyFrom 60 o_sp) (f_X2_copyFrom 60 o_we) (f_X2_copyFrom 60 o_le) ta num ++ wX5 cI h9 h10 h11 h12 h13 h14 h15 h16 h17 o_sp o_we o_le o_ta o_num) E (c_X2_copyFrom l D cI cC cR h5 h6 h14 h15 60 (by decide) le o_le (f_X2_copyFrom 60 o_le) rfl) vl_X5_29 yv_X2_copyFrom ⟨Nat.le_of_ble_eq_true rfl, Nat.le_of_ble_eq_true rfl⟩ ⟨rfl, rfl⟩ ⟨Nat.zero_le _, Nat.zero_le _⟩ 5 rfl rfl [5, 6, 14, 15] rfl rfl rfl rfl (Nat.le_of_ble_eq_true rfl) dX5_copyFrom_30 [h5, h6, h14, h15] rfl rfl rfl ?_
  refine kw_aload_n X dX5_copyFrom_33 rfl 0 rfl ?_
  refine kw_get X inX5 0 rfl rfl 3 (by decide) rfl gw_74 rfl dX5_copyFrom_34 ?_
  refine kw_aload_n X dX5_copyFrom_37 rfl 1 rfl ?_
  refine kw_get X inX5 9 rfl rfl 3 (by decide) rfl gw_74 rfl dX5_copyFrom_38 ?_
  refine kw_vev X (As := [.ref h16]) (st := []) (ws' := wX5 cI h0 h1 h2 h3 h4 h5 h6 h7 h8 (f_X2_copyFrom 60 o_sp) (f_X2_copyFrom 60 o_we) (f_X2_copyFrom 60 o_le) (f_X2_copyFrom 24 o_ta) num ++ wX5 cI h9 h10 h11 h12 h13 h14 h15 h16 h17 o_sp o_we o_le o_ta o_num) E (c_X2_copyFrom l D cI cC cR h7 h8 h16 h17 24 (by decide) ta o_ta (f_X2_copyFrom 24 o_ta) rfl) vl_X5_29 yv_X2_copyFrom ⟨Nat.le_of_ble_eq_true rfl, Nat.le_of_ble_eq_true rfl⟩ ⟨rfl, rfl⟩ ⟨Nat.zero_le _, Nat.zero_le _⟩ 7 rfl rfl [7, 8, 16, 17] rfl rfl rfl rfl (Nat.le_of_ble_eq_true rfl) dX5_copyFrom_41 [h7, h8, h16, h17] rfl rfl rfl ?_
  refine kw_aload_n X dX5_copyFrom_44 rfl 0 rfl ?_
  refine kw_aload_n X dX5_copyFrom_45 rfl 1 rfl ?_
  refine kw_get X inX5 9 rfl rfl 4 (by decide) rfl gw_75 rfl dX5_copyFrom_46 ?_
  refine kw_put X E inX5 tyX5 tyX5_ok nmX5 0 rfl rfl 4 (by decide) rfl gw_75 rfl pfd_I (vp_nar_int _) rfl (Nat.le_of_ble_eq_true rfl) (ws' := wX5 cI h0 h1 h2 h3 h4 h5 h6 h7 h8 (f_X2_copyFrom 60 o_sp) (f_X2_copyFrom 60 o_we) (f_X2_copyFrom 60 o_le) (f_X2_copyFrom 24 o_ta) o_num ++ wX5 cI h9 h10 h11 h12 h13 h14 h15 h16 h17 o_sp o_we o_le o_ta o_num) rfl dX5_copyFrom_49 ?_
  obtain ⟨rfl, rfl, rfl, rfl, rfl⟩ := ti5 hF
  exact hret _ _ dX5_copyFrom_52
-- X0_copyFrom
def f_X0_copyFrom (o_sp : Nat → Int32) (o_we : Nat → Int32) (o_le : Nat → Int32) (o_ta : Nat → Int32) (o_num : Int32) (o_rooms : Nat → Int32) (o_purses : Nat → Int32) (o_showers : Nat → Int32) (o_homes : Nat → Int32) (o_paid : Nat → Int32) (o_hours : Int32) (o_house : Int32) (o_spent : Int32) (o_loans : Int32) (o_surges : Int32) (o_rate : Int32) : (Nat → Int32) × (Nat → Int32) × (Nat → Int32) × (Nat → Int32) × Int32 × (Nat → Int32) × (Nat → Int32) × (Nat → Int32) × (Nat → Int32) × (Nat → Int32) × Int32 × Int32 × Int32 × Int32 × Int32 × Int32 :=
  (pl5 (f_X5_copyFrom o_sp o_we o_le o_ta o_num) (fun (m1 : Nat → Int32) (m2 : Nat → Int32) (m3 : Nat → Int32) (m4 : Nat → Int32) (b5 : Int32) => (m1, m2, m3, m4, b5, (f_X2_copyFrom 8 o_rooms), (f_X2_copyFrom 12 o_purses), (f_X2_copyFrom 12 o_showers), (f_X2_copyFrom 12 o_homes), (f_X2_copyFrom 12 o_paid), o_hours, o_house, o_spent, o_loans, o_surges, o_rate)))
abbrev rm_X0_copyFrom : Room := { frames := 3, cells := 0, slots := 0, locals := 68 }
set_option maxHeartbeats 4000000 in
set_option maxRecDepth 100000 in
theorem c_X0_copyFrom (l : Launch) (D : va_G) (cI cC cR : ClassId) (h0 h1 h2 h3 h4 h5 h6 h7 h8 h9 h10 h11 h12 h13 h14 h15 h16 h17 h18 h19 h20 h21 h22 h23 h24 h25 h26 h27 h28 h29 h30 h31 h32 h33 h34 h35 h36 h37 h38 h39 : Nat) (sp : Nat → Int32) (we : Nat → Int32) (le : Nat → Int32) (ta : Nat → Int32) (num : Int32) (rooms : Nat → Int32) (purses : Nat → Int32) (showers : Nat → Int32) (homes : Nat → Int32) (paid : Nat → Int32) (hours : Int32) (house : Int32) (spent : Int32) (loans : Int32) (surges : Int32) (rate : Int32) (o_sp : Nat → Int32) (o_we : Nat → Int32) (o_le : Nat → Int32) (o_ta : Nat → Int32) (o_num : Int32) (o_rooms : Nat → Int32) (o_purses : Nat → Int32) (o_showers : Nat → Int32) (o_homes : Nat → Int32) (o_paid : Nat → Int32) (o_hours : Int32) (o_house : Int32) (o_spent : Int32) (o_loans : Int32) (o_surges : Int32) (o_rate : Int32) (sp' : Nat → Int32) (we' : Nat → Int32) (le' : Nat → Int32) (ta' : Nat → Int32) (num' : Int32) (rooms' : Nat → Int32) (purses' : Nat → Int32) (showers' : Nat → Int32) (homes' : Nat → Int32) (paid' : Nat → Int32) (hours' : Int32) (house' : Int32) (spent' : Int32) (loans' : Int32) (surges' : Int32) (rate' : Int32) (hF : f_X0_copyFrom o_sp o_we o_le o_ta o_num o_rooms o_purses o_showers o_homes o_paid o_hours o_house o_spent o_loans o_surges o_rate = (sp', we', le', ta', num', rooms', purses', showers', homes', paid', hours', house', spent', loans', surges', rate')) : MEq l yX0_copyFrom cX0_copyFrom 2 none rm_X0_copyFrom D (TY cI cC cR) [.ref h0, .ref h20] (wX0 cI h0 h1 h2 h3 h4 h5 h6 h7 h8 h9 h10 h11 h12 h13 h14 h15 h16 h17 h18 h19 sp we le ta num rooms purses showers homes paid hours house spent loans surges rate ++ wX0 cI h20 h21 h22 h23 h24 h25 h26 h27 h28 h29 h30 h31 h32 h33 h34 h35 h36 h37 h38 h39 o_sp o_we o_le o_ta o_num o_rooms o_purses o_showers o_homes o_paid o_hours o_house o_spent o_loans o_surges o_rate) (wX0 cI h0 h1 h2 h3 h4 h5 h6 h7 h8 h9 h10 h11 h12 h13 h14 h15 h16 h17 h18 h19 sp' we' le' ta' num' rooms' purses' showers' homes' paid' hours' house' spent' loans' surges' rate' ++ wX0 cI h20 h21 h22 h23 h24 h25 h26 h27 h28 h29 h30 h31 h32 h33 h34 h35 h36 h37 h38 h39 o_sp o_we o_le o_ta o_num o_rooms o_purses o_showers o_homes o_paid o_hours o_house o_spent o_loans o_surges o_rate) none := by
  refine me_v pn_X0 (Nat.le_of_ble_eq_true rfl) rfl (fun Γ X E hret => ?_)
  unfold f_X0_copyFrom at hF
  refine kw_aload_n X dX0_copyFrom_0 rfl 0 rfl ?_
  refine kw_get X inX0 0 rfl rfl 0 (by decide) rfl gw_95 rfl dX0_copyFrom_1 ?_
  refine kw_aload_n X dX0_copyFrom_4 rfl 1 rfl ?_
  refine kw_get X inX0 20 rfl rfl 0 (by decide) rfl gw_95 rfl dX0_copyFrom_5 ?_
  obtain ⟨m1, m2, m3, m4, b5, hx5, hF⟩ := pl5_ex hF
  refine kw_vev X (As := [.ref h21]) (st := []) (ws' := wX0 cI h0 h1 h2 h3 h4 h5 h6 h7 h8 h9 h10 h11 h12 h13 h14 h15 h16 h17 h18 h19 m1 m2 m3 m4 b5 rooms purses showers homes paid hours house spent loans surges rate ++ wX0 cI h20 h21 h22 h23 h24 h25 h26 h27 h28 h29 h30 h31 h32 h33 h34 h35 h36 h37 h38 h39 o_sp o_we o_le o_ta o_num o_rooms o_purses o_showers o_homes o_paid o_hours o_house o_spent o_loans o_surges o_rate) E (c_X5_copyFrom l D cI cC cR h1 h2 h3 h4 h5 h6 h7 h8 h9 h21 h22 h23 h24 h25 h26 h27 h28 h29 sp we le ta num o_sp o_we o_le o_ta o_num m1 m2 m3 m4 b5 hx5) vl_X0_49 yv_X5_copyFrom ⟨Nat.le_of_ble_eq_true rfl, Nat.le_of_ble_eq_true rfl⟩ ⟨rfl, rfl⟩ ⟨Nat.zero_le _, Nat.zero_le _⟩ 1 rfl rfl [1, 2, 3, 4, 5, 6, 7, 8, 9, 21, 22, 23, 24, 25, 26, 27, 28, 29] rfl rfl rfl rfl (Nat.le_of_ble_eq_true rfl) dX0_copyFrom_8 [h1, h2, h3, h4, h5, h6, h7, h8, h9, h21, h22, h23, h24, h25, h26, h27, h28, h29] rfl rfl (wmrg_0 rfl rfl) ?_
  refine kw_aload_n X dX0_copyFrom_11 rfl 0 rfl ?_
  refine kw_get X inX0 0 rfl rfl 1 (by decide) rfl gw_97 rfl dX0_copyFrom_12 ?_
  refine kw_aload_n X dX0_copyFrom_15 rfl 1 rfl ?_
  refine kw_get X inX0 20 rfl rfl 1 (by decide) rfl gw_97 rfl dX0_copyFrom_16 ?_
  refine kw_vev X (As := [.ref h30]) (st := []) (ws' := wX0 cI h0 h1 h2 h3 h4 h5 h6 h7 h8 h9 h10 h11 h12 h13 h14 h15 h16 h17 h18 h19 m1 m2 m3 m4 b5 (f_X2_copyFrom 8 o_rooms) purses showers homes paid hours house spent loans surges rate ++ wX0 cI h20 h21 h22 h23 h24 h25 h26 h27 h28 h29 h30 h31 h32 h33 h34 h35 h36 h37 h38 h39 o_sp o_we o_le o_ta o_num o_rooms o_purses o_showers o_homes o_paid o_hours o_house o_spent o_loans o_surges o_rate) E (c_X2_copyFrom l D cI cC cR h10 h11 h30 h31 8 (by decide) rooms o_rooms (f_X2_copyFrom 8 o_rooms) rfl) vl_X0_53 yv_X2_copyFrom ⟨Nat.le_of_ble_eq_true rfl, Nat.le_of_ble_eq_true rfl⟩ ⟨rfl, rfl⟩ ⟨Nat.zero_le _, Nat.zero_le _⟩ 10 rfl rfl [10, 11, 30, 31] rfl rfl rfl rfl (Nat.le_of_ble_eq_true rfl) dX0_copyFrom_19 [h10, h11, h30, h31] rfl rfl rfl ?_
  refine kw_aload_n X dX0_copyFrom_22 rfl 0 rfl ?_
  refine kw_get X inX0 0 rfl rfl 2 (by decide) rfl gw_99 rfl dX0_copyFrom_23 ?_
  refine kw_aload_n X dX0_copyFrom_26 rfl 1 rfl ?_
  refine kw_get X inX0 20 rfl rfl 2 (by decide) rfl gw_99 rfl dX0_copyFrom_27 ?_
  refine kw_vev X (As := [.ref h32]) (st := []) (ws' := wX0 cI h0 h1 h2 h3 h4 h5 h6 h7 h8 h9 h10 h11 h12 h13 h14 h15 h16 h17 h18 h19 m1 m2 m3 m4 b5 (f_X2_copyFrom 8 o_rooms) (f_X2_copyFrom 12 o_purses) showers homes paid hours house spent loans surges rate ++ wX0 cI h20 h21 h22 h23 h24 h25 h26 h27 h28 h29 h30 h31 h32 h33 h34 h35 h36 h37 h38 h39 o_sp o_we o_le o_ta o_num o_rooms o_purses o_showers o_homes o_paid o_hours o_house o_spent o_loans o_surges o_rate) E (c_X2_copyFrom l D cI cC cR h12 h13 h32 h33 12 (by decide) purses o_purses (f_X2_copyFrom 12 o_purses) rfl) vl_X0_53 yv_X2_copyFrom ⟨Nat.le_of_ble_eq_true rfl, Nat.le_of_ble_eq_true rfl⟩ ⟨rfl, rfl⟩ ⟨Nat.zero_le _, Nat.zero_le _⟩ 12 rfl rfl [12, 13, 32, 33] rfl rfl rfl rfl (Nat.le_of_ble_eq_true rfl) dX0_copyFrom_30 [h12, h13, h32, h33] rfl rfl rfl ?_
  refine kw_aload_n X dX0_copyFrom_33 rfl 0 rfl ?_
  refine kw_get X inX0 0 rfl rfl 3 (by decide) rfl gw_101 rfl dX0_copyFrom_34 ?_
  refine kw_aload_n X dX0_copyFrom_37 rfl 1 rfl ?_
  refine kw_get X inX0 20 rfl rfl 3 (by decide) rfl gw_101 rfl dX0_copyFrom_38 ?_
  refine kw_vev X (As := [.ref h34]) (st := []) (ws' := wX0 cI h0 h1 h2 h3 h4 h5 h6 h7 h8 h9 h10 h11 h12 h13 h14 h15 h16 h17 h18 h19 m1 m2 m3 m4 b5 (f_X2_copyFrom 8 o_rooms) (f_X2_copyFrom 12 o_purses) (f_X2_copyFrom 12 o_showers) homes paid hours house spent loans surges rate ++ wX0 cI h20 h21 h22 h23 h24 h25 h26 h27 h28 h29 h30 h31 h32 h33 h34 h35 h36 h37 h38 h39 o_sp o_we o_le o_ta o_num o_rooms o_purses o_showers o_homes o_paid o_hours o_house o_spent o_loans o_surges o_rate) E (c_X2_copyFrom l D cI cC cR h14 h15 h34 h35 12 (by decide) showers o_showers (f_X2_copyFrom 12 o_showers) rfl) vl_X0_53 yv_X2_copyFrom ⟨Nat.le_of_ble_eq_true rfl, Nat.le_of_ble_eq_true rfl⟩ ⟨rfl, rfl⟩ ⟨Nat.zero_le _, Nat.zero_le _⟩ 14 rfl rfl [14, 15, 34, 35] rfl rfl rfl rfl (Nat.le_of_ble_eq_true rfl) dX0_copyFrom_41 [h14, h15, h34, h35] rfl rfl rfl ?_
  refine kw_aload_n X dX0_copyFrom_44 rfl 0 rfl ?_
  refine kw_get X inX0 0 rfl rfl 4 (by decide) rfl gw_103 rfl dX0_copyFrom_45 ?_
  refine kw_aload_n X dX0_copyFrom_48 rfl 1 rfl ?_
  refine kw_get X inX0 20 rfl rfl 4 (by decide) rfl gw_103 rfl dX0_copyFrom_49 ?_
  refine kw_vev X (As := [.ref h36]) (st := []) (ws' := wX0 cI h0 h1 h2 h3 h4 h5 h6 h7 h8 h9 h10 h11 h12 h13 h14 h15 h16 h17 h18 h19 m1 m2 m3 m4 b5 (f_X2_copyFrom 8 o_rooms) (f_X2_copyFrom 12 o_purses) (f_X2_copyFrom 12 o_showers) (f_X2_copyFrom 12 o_homes) paid hours house spent loans surges rate ++ wX0 cI h20 h21 h22 h23 h24 h25 h26 h27 h28 h29 h30 h31 h32 h33 h34 h35 h36 h37 h38 h39 o_sp o_we o_le o_ta o_num o_rooms o_purses o_showers o_homes o_paid o_hours o_house o_spent o_loans o_surges o_rate) E (c_X2_copyFrom l D cI cC cR h16 h17 h36 h37 12 (by decide) homes o_homes (f_X2_copyFrom 12 o_homes) rfl) vl_X0_53 yv_X2_copyFrom ⟨Nat.le_of_ble_eq_true rfl, Nat.le_of_ble_eq_true rfl⟩ ⟨rfl, rfl⟩ ⟨Nat.zero_le _, Nat.zero_le _⟩ 16 rfl rfl [16, 17, 36, 37] rfl rfl rfl rfl (Nat.le_of_ble_eq_true rfl) dX0_copyFrom_52 [h16, h17, h36, h37] rfl rfl rfl ?_
  refine kw_aload_n X dX0_copyFrom_55 rfl 0 rfl ?_
  refine kw_get X inX0 0 rfl rfl 5 (by decide) rfl gw_105 rfl dX0_copyFrom_56 ?_
  refine kw_aload_n X dX0_copyFrom_59 rfl 1 rfl ?_
  refine kw_get X inX0 20 rfl rfl 5 (by decide) rfl gw_105 rfl dX0_copyFrom_60 ?_
  refine kw_vev X (As := [.ref h38]) (st := []) (ws' := wX0 cI h0 h1 h2 h3 h4 h5 h6 h7 h8 h9 h10 h11 h12 h13 h14 h15 h16 h17 h18 h19 m1 m2 m3 m4 b5 (f_X2_copyFrom 8 o_rooms) (f_X2_copyFrom 12 o_purses) (f_X2_copyFrom 12 o_showers) (f_X2_copyFrom 12 o_homes) (f_X2_copyFrom 12 o_paid) hours house spent loans surges rate ++ wX0 cI h20 h21 h22 h23 h24 h25 h26 h27 h28 h29 h30 h31 h32 h33 h34 h35 h36 h37 h38 h39 o_sp o_we o_le o_ta o_num o_rooms o_purses o_showers o_homes o_paid o_hours o_house o_spent o_loans o_surges o_rate) E (c_X2_copyFrom l D cI cC cR h18 h19 h38 h39 12 (by decide) paid o_paid (f_X2_copyFrom 12 o_paid) rfl) vl_X0_53 yv_X2_copyFrom ⟨Nat.le_of_ble_eq_true rfl, Nat.le_of_ble_eq_true rfl⟩ ⟨rfl, rfl⟩ ⟨Nat.zero_le _, Nat.zero_le _⟩ 18 rfl rfl [18, 19, 38, 39] rfl rfl rfl rfl (Nat.le_of_ble_eq_true rfl) dX0_copyFrom_63 [h18, h19, h38, h39] rfl rfl rfl ?_
  refine kw_aload_n X dX0_copyFrom_66 rfl 0 rfl ?_
  refine kw_aload_n X dX0_copyFrom_67 rfl 1 rfl ?_
  refine kw_get X inX0 20 rfl rfl 6 (by decide) rfl gw_107 rfl dX0_copyFrom_68 ?_
  refine kw_put X E inX0 tyX0 tyX0_ok nmX0 0 rfl rfl 6 (by decide) rfl gw_107 rfl pfd_I (vp_nar_int _) rfl (Nat.le_of_ble_eq_true rfl) (ws' := wX0 cI h0 h1 h2 h3 h4 h5 h6 h7 h8 h9 h10 h11 h12 h13 h14 h15 h16 h17 h18 h19 m1 m2 m3 m4 b5 (f_X2_copyFrom 8 o_rooms) (f_X2_copyFrom 12 o_purses) (f_X2_copyFrom 12 o_showers) (f_X2_copyFrom 12 o_homes) (f_X2_copyFrom 12 o_paid) o_hours house spent loans surges rate ++ wX0 cI h20 h21 h22 h23 h24 h25 h26 h27 h28 h29 h30 h31 h32 h33 h34 h35 h36 h37 h38 h39 o_sp o_we o_le o_ta o_num o_rooms o_purses o_showers o_homes o_paid o_hours o_house o_spent o_loans o_surges o_rate) rfl dX0_copyFrom_71 ?_
  refine kw_aload_n X dX0_copyFrom_74 rfl 0 rfl ?_
  refine kw_aload_n X dX0_copyFrom_75 rfl 1 rfl ?_
  refine kw_get X inX0 20 rfl rfl 7 (by decide) rfl gw_109 rfl dX0_copyFrom_76 ?_
  refine kw_put X E inX0 tyX0 tyX0_ok nmX0 0 rfl rfl 7 (by decide) rfl gw_109 rfl pfd_I (vp_nar_int _) rfl (Nat.le_of_ble_eq_true rfl) (ws' := wX0 cI h0 h1 h2 h3 h4 h5 h6 h7 h8 h9 h10 h11 h12 h13 h14 h15 h16 h17 h18 h19 m1 m2 m3 m4 b5 (f_X2_copyFrom 8 o_rooms) (f_X2_copyFrom 12 o_purses) (f_X2_copyFrom 12 o_showers) (f_X2_copyFrom 12 o_homes) (f_X2_copyFrom 12 o_paid) o_hours o_house spent loans surges rate ++ wX0 cI h20 h21 h22 h23 h24 h25 h26 h27 h28 h29 h30 h31 h32 h33 h34 h35 h36 h37 h38 h39 o_sp o_we o_le o_ta o_num o_rooms o_purses o_showers o_homes o_paid o_hours o_house o_spent o_loans o_surges o_rate) rfl dX0_copyFrom_79 ?_
  refine kw_aload_n X dX0_copyFrom_82 rfl 0 rfl ?_
  refine kw_aload_n X dX0_copyFrom_83 rfl 1 rfl ?_
  refine kw_get X inX0 20 rfl rfl 8 (by decide) rfl gw_111 rfl dX0_copyFrom_84 ?_
  refine kw_put X E inX0 tyX0 tyX0_ok nmX0 0 rfl rfl 8 (by decide) rfl gw_111 rfl pfd_I (vp_nar_int _) rfl (Nat.le_of_ble_eq_true rfl) (ws' := wX0 cI h0 h1 h2 h3 h4 h5 h6 h7 h8 h9 h10 h11 h12 h13 h14 h15 h16 h17 h18 h19 m1 m2 m3 m4 b5 (f_X2_copyFrom 8 o_rooms) (f_X2_copyFrom 12 o_purses) (f_X2_copyFrom 12 o_showers) (f_X2_copyFrom 12 o_homes) (f_X2_copyFrom 12 o_paid) o_hours o_house o_spent loans surges rate ++ wX0 cI h20 h21 h22 h23 h24 h25 h26 h27 h28 h29 h30 h31 h32 h33 h34 h35 h36 h37 h38 h39 o_sp o_we o_le o_ta o_num o_rooms o_purses o_showers o_homes o_paid o_hours o_house o_spent o_loans o_surges o_rate) rfl dX0_copyFrom_87 ?_
  refine kw_aload_n X dX0_copyFrom_90 rfl 0 rfl ?_
  refine kw_aload_n X dX0_copyFrom_91 rfl 1 rfl ?_
  refine kw_get X inX0 20 rfl rfl 9 (by decide) rfl gw_113 rfl dX0_copyFrom_92 ?_
  refine kw_put X E inX0 tyX0 tyX0_ok nmX0 0 rfl rfl 9 (by decide) rfl gw_113 rfl pfd_I (vp_nar_int _) rfl (Nat.le_of_ble_eq_true rfl) (ws' := wX0 cI h0 h1 h2 h3 h4 h5 h6 h7 h8 h9 h10 h11 h12 h13 h14 h15 h16 h17 h18 h19 m1 m2 m3 m4 b5 (f_X2_copyFrom 8 o_rooms) (f_X2_copyFrom 12 o_purses) (f_X2_copyFrom 12 o_showers) (f_X2_copyFrom 12 o_homes) (f_X2_copyFrom 12 o_paid) o_hours o_house o_spent o_loans surges rate ++ wX0 cI h20 h21 h22 h23 h24 h25 h26 h27 h28 h29 h30 h31 h32 h33 h34 h35 h36 h37 h38 h39 o_sp o_we o_le o_ta o_num o_rooms o_purses o_showers o_homes o_paid o_hours o_house o_spent o_loans o_surges o_rate) rfl dX0_copyFrom_95 ?_
  refine kw_aload_n X dX0_copyFrom_98 rfl 0 rfl ?_
  refine kw_aload_n X dX0_copyFrom_99 rfl 1 rfl ?_
  refine kw_get X inX0 20 rfl rfl 10 (by decide) rfl gw_115 rfl dX0_copyFrom_100 ?_
  refine kw_put X E inX0 tyX0 tyX0_ok nmX0 0 rfl rfl 10 (by decide) rfl gw_115 rfl pfd_I (vp_nar_int _) rfl (Nat.le_of_ble_eq_true rfl) (ws' := wX0 cI h0 h1 h2 h3 h4 h5 h6 h7 h8 h9 h10 h11 h12 h13 h14 h15 h16 h17 h18 h19 m1 m2 m3 m4 b5 (f_X2_copyFrom 8 o_rooms) (f_X2_copyFrom 12 o_purses) (f_X2_copyFrom 12 o_showers) (f_X2_copyFrom 12 o_homes) (f_X2_copyFrom 12 o_paid) o_hours o_house o_spent o_loans o_surges rate ++ wX0 cI h20 h21 h22 h23 h24 h25 h26 h27 h28 h29 h30 h31 h32 h33 h34 h35 h36 h37 h38 h39 o_sp o_we o_le o_ta o_num o_rooms o_purses o_showers o_homes o_paid o_hours o_house o_spent o_loans o_surges o_rate) rfl dX0_copyFrom_103 ?_
  refine kw_aload_n X dX0_copyFrom_106 rfl 0 rfl ?_
  refine kw_aload_n X dX0_copyFrom_107 rfl 1 rfl ?_
  refine kw_get X inX0 20 rfl rfl 11 (by decide) rfl gw_117 rfl dX0_copyFrom_108 ?_
  refine kw_put X E inX0 tyX0 tyX0_ok nmX0 0 rfl rfl 11 (by decide) rfl gw_117 rfl pfd_I (vp_nar_int _) rfl (Nat.le_of_ble_eq_true rfl) (ws' := wX0 cI h0 h1 h2 h3 h4 h5 h6 h7 h8 h9 h10 h11 h12 h13 h14 h15 h16 h17 h18 h19 m1 m2 m3 m4 b5 (f_X2_copyFrom 8 o_rooms) (f_X2_copyFrom 12 o_purses) (f_X2_copyFrom 12 o_showers) (f_X2_copyFrom 12 o_homes) (f_X2_copyFrom 12 o_paid) o_hours o_house o_spent o_loans o_surges o_rate ++ wX0 cI h20 h21 h22 h23 h24 h25 h26 h27 h28 h29 h30 h31 h32 h33 h34 h35 h36 h37 h38 h39 o_sp o_we o_le o_ta o_num o_rooms o_purses o_showers o_homes o_paid o_hours o_house o_spent o_loans o_surges o_rate) rfl dX0_copyFrom_111 ?_
  obtain ⟨rfl, rfl, rfl, rfl, rfl, rfl, rfl, rfl, rfl, rfl, rfl, rfl, rfl, rfl, rfl, rfl⟩ := ti16 hF
  exact hret _ _ dX0_copyFrom_114
