-- X7_brokenOnes
def f_X7_brokenOnes_L4 (p : Nat → Int32) : Nat → Int32 → Int32 → Option (Int32)
  | 0, _, _ => none
  | F + 1, v1_26, v2_27 => ob1 (aget 986 p 0) (fun a28 => (if v2_27 < a28 then ob1 (aget 986 p (1 + v2_27)) (fun a30 => (ob1 (if a30 = 4 then (some 0) else (ob1 (f_X7_isBroken p v2_27) (fun (b37 : Int32) => (if b37 = 0 then (some 0) else (some 1))))) (fun (x35 : Int32) => (f_X7_brokenOnes_L4 p F (v1_26 + x35) (v2_27 + 1))))) else (some (v1_26))))
def f_X7_brokenOnes (Z : Nat) (p : Nat → Int32) : Option (Int32) :=
  (ob1 (f_X7_brokenOnes_L4 p Z 0 0) (fun (e25 : Int32) => (some e25)))
abbrev rm_X7_brokenOnes : Room := { frames := 1, cells := 0, slots := 0, locals := 21 }
set_option maxHeartbeats 4000000 in
set_option maxRecDepth 100000 in
theorem c_X7_brokenOnes (l : Launch) (D : va_G) (cI cC cR : ClassId) (h0 h1 h2 h3 h4 : Nat) (p : Nat → Int32) (sv : Nat → Int32) (asd : Nat → Int32) (tx : Nat → Int32) (states : Int32) (len : Int32) (at_ : Int32) (letter : Int32) (one : Int32) (two : Int32) (number : Int32) (Z : Nat) (r : Int32) (hF : f_X7_brokenOnes Z p = some r) : MPi l yX7_brokenOnes cX7_brokenOnes 3 (some .int) rm_X7_brokenOnes D (TY cI cC cR) [.ref h0] (wX7 cI h0 h1 h2 h3 h4 p sv asd tx states len at_ letter one two number) (.int r) := by
  refine me_p pn_X7 (Nat.le_of_ble_eq_true rfl) rfl (fun Γ X hret => ?_)
  unfold f_X7_brokenOnes at hF
  refine kw_iconst X dX7_brokenOnes_0 ci_0 ?_
  refine kw_istore_n (lo' := [(0, .ref h0), (1, .int 0)]) X dX7_brokenOnes_1 rfl (by decide) [1, 0] rfl ?_
  refine kw_iconst X dX7_brokenOnes_2 ci_0 ?_
  refine kw_istore_n (lo' := [(0, .ref h0), (1, .int 0), (2, .int 0)]) X dX7_brokenOnes_3 rfl (by decide) [1, 2, 0] rfl ?_
  obtain ⟨e25, hx, hF⟩ := ob1_ex hF
  have J : KW Γ 0 0 (wX7 cI h0 h1 h2 h3 h4 p sv asd tx states len at_ letter one two number) [(1, .int e25)] 48 [] := by
    refine kw_iload_n X dX7_brokenOnes_48 rfl 0 rfl ?_
    obtain rfl := si1 hF
    exact hret _ _ _ (vp_nar_int _) dX7_brokenOnes_49
  have hL4 : ∀ (F : Nat) (v1_26 : Int32) (v2_27 : Int32), f_X7_brokenOnes_L4 p F v1_26 v2_27 = some (e25) → KW Γ 0 0 (wX7 cI h0 h1 h2 h3 h4 p sv asd tx states len at_ letter one two number) [(0, .ref h0), (1, .int v1_26), (2, .int v2_27)] 4 [] := by
    intro F
    induction F with
    | zero => intro v1_26 v2_27 hF; exact none_some hF
    | succ F ih4 =>
      intro v1_26 v2_27 hF
      rw [f_X7_brokenOnes_L4] at hF
      refine kw_iload_n X dX7_brokenOnes_4 rfl 2 rfl ?_
      refine kw_aload_n X dX7_brokenOnes_5 rfl 0 rfl ?_
      refine kw_get X inX7 0 rfl rfl 0 (by decide) rfl gw_698 rfl dX7_brokenOnes_6 ?_
      refine kw_iconst X dX7_brokenOnes_9 ci_0 ?_
      obtain ⟨a28, hx, hF⟩ := ob1_ex hF
      obtain ⟨hin, hx⟩ := aget_ex hx
      refine kw_iald X 1 0 rfl rfl hin hx dX7_brokenOnes_10 ?_
      refine kw_icmp_ge X 48 dX7_brokenOnes_11 (by decide) (fun q29 => ?_) (fun q29 => ?_)
      · replace hF := (if_neg q29).symm.trans hF
        refine kw_loc (lo' := [(1, .int v1_26)]) [1] rfl ?_
        obtain rfl := si1 hF
        exact J
      · replace hF := (if_pos q29).symm.trans hF
        refine kw_iload_n X dX7_brokenOnes_14 rfl 1 rfl ?_
        refine kw_aload_n X dX7_brokenOnes_15 rfl 0 rfl ?_
        refine kw_get X inX7 0 rfl rfl 0 (by decide) rfl gw_698 rfl dX7_brokenOnes_16 ?_
        refine kw_iconst X dX7_brokenOnes_19 ci_1 ?_
        refine kw_iload_n X dX7_brokenOnes_20 rfl 2 rfl ?_
        refine kw_iadd X dX7_brokenOnes_21 ?_
        obtain ⟨a30, hx, hF⟩ := ob1_ex hF
        obtain ⟨hin, hx⟩ := aget_ex hx
        refine kw_iald X 1 0 rfl rfl hin hx dX7_brokenOnes_22 ?_
        refine kw_iconst X dX7_brokenOnes_23 ci_4 ?_
        obtain ⟨x35, hx36, hF⟩ := ob1_ex hF
        have J : KW Γ 0 0 (wX7 cI h0 h1 h2 h3 h4 p sv asd tx states len at_ letter one two number) [(0, .ref h0), (2, .int v2_27)] 40 [.int x35, .int v1_26] := by
          refine kw_iadd X dX7_brokenOnes_40 ?_
          refine kw_istore_n (lo' := [(0, .ref h0), (1, .int (v1_26 + x35)), (2, .int v2_27)]) X dX7_brokenOnes_41 rfl (by decide) [1, 0, 2] rfl ?_
          refine kw_iinc (lo' := [(0, .ref h0), (1, .int (v1_26 + x35)), (2, .int (v2_27 + 1))]) X dX7_brokenOnes_42 2 rfl (congrArg (fun w => v2_27 + w) ci_1) (by decide) [1, 2, 0] rfl ?_
          refine kw_goto X 4 dX7_brokenOnes_45 (by decide) ?_
          exact ih4 _ _ hF
        replace hF := hx36
        refine kw_icmp_eq X 39 dX7_brokenOnes_24 (by decide) (fun q31 => ?_) (fun q31 => ?_)
        · replace hF := (if_pos q31).symm.trans hF
          refine kw_iconst X dX7_brokenOnes_39 ci_0 ?_
          refine kw_loc (lo' := [(0, .ref h0), (2, .int v2_27)]) [0, 2] rfl ?_
          obtain rfl := si1 hF
          exact J
        · replace hF := (if_neg q31).symm.trans hF
          refine kw_aload_n X dX7_brokenOnes_27 rfl 0 rfl ?_
          refine kw_iload_n X dX7_brokenOnes_28 rfl 2 rfl ?_
          obtain ⟨b37, hx37, hF⟩ := ob1_ex hF
          refine kw_ap X (r := .int b37) (As := [.int v2_27]) (st := [.int v1_26]) (c_X7_isBroken l D cI cC cR h0 h1 h2 h3 h4 p sv asd tx states len at_ letter one two number v2_27 b37 hx37) vl_X7_33 yv_X7_isBroken ⟨Nat.le_of_ble_eq_true rfl, Nat.le_of_ble_eq_true rfl⟩ ⟨rfl, rfl⟩ ⟨Nat.zero_le _, Nat.zero_le _⟩ 0 rfl rfl rfl rfl (Nat.le_of_ble_eq_true rfl) dX7_brokenOnes_29 ?_
          refine kw_if_eq X 39 dX7_brokenOnes_32 (by decide) (fun q38 => ?_) (fun q38 => ?_)
          · replace hF := (if_pos q38).symm.trans hF
            refine kw_iconst X dX7_brokenOnes_39 ci_0 ?_
            refine kw_loc (lo' := [(0, .ref h0), (2, .int v2_27)]) [0, 2] rfl ?_
            obtain rfl := si1 hF
            exact J
          · replace hF := (if_neg q38).symm.trans hF
            refine kw_iconst X dX7_brokenOnes_35 ci_1 ?_
            refine kw_goto X 40 dX7_brokenOnes_36 (by decide) ?_
            refine kw_loc (lo' := [(0, .ref h0), (2, .int v2_27)]) [0, 2] rfl ?_
            obtain rfl := si1 hF
            exact J
  exact hL4 Z _ _ hx
-- X7_coinsOfPersons
def f_X7_coinsOfPersons_L4 (p : Nat → Int32) : Nat → Int32 → Int32 → Option (Int32)
  | 0, _, _ => none
  | F + 1, v1_8, v2_9 => (if v2_9 < 12 then ob1 (aget 986 p (249 + v2_9)) (fun a11 => (f_X7_coinsOfPersons_L4 p F (v1_8 + a11) (v2_9 + 1))) else (some (v1_8)))
def f_X7_coinsOfPersons (Z : Nat) (p : Nat → Int32) : Option (Int32) :=
  (ob1 (f_X7_coinsOfPersons_L4 p Z 0 0) (fun (e7 : Int32) => (some e7)))
abbrev rm_X7_coinsOfPersons : Room := { frames := 0, cells := 0, slots := 0, locals := 0 }
set_option maxHeartbeats 4000000 in
set_option maxRecDepth 100000 in
theorem c_X7_coinsOfPersons (l : Launch) (D : va_G) (cI cC cR : ClassId) (h0 h1 h2 h3 h4 : Nat) (p : Nat → Int32) (sv : Nat → Int32) (asd : Nat → Int32) (tx : Nat → Int32) (states : Int32) (len : Int32) (at_ : Int32) (letter : Int32) (one : Int32) (two : Int32) (number : Int32) (Z : Nat) (r : Int32) (hF : f_X7_coinsOfPersons Z p = some r) : MPi l yX7_coinsOfPersons cX7_coinsOfPersons 3 (some .int) rm_X7_coinsOfPersons D (TY cI cC cR) [.ref h0] (wX7 cI h0 h1 h2 h3 h4 p sv asd tx states len at_ letter one two number) (.int r) := by
  refine me_p pn_X7 (Nat.le_of_ble_eq_true rfl) rfl (fun Γ X hret => ?_)
  unfold f_X7_coinsOfPersons at hF
  refine kw_iconst X dX7_coinsOfPersons_0 ci_0 ?_
  refine kw_istore_n (lo' := [(0, .ref h0), (1, .int 0)]) X dX7_coinsOfPersons_1 rfl (by decide) [1, 0] rfl ?_
  refine kw_iconst X dX7_coinsOfPersons_2 ci_0 ?_
  refine kw_istore_n (lo' := [(0, .ref h0), (1, .int 0), (2, .int 0)]) X dX7_coinsOfPersons_3 rfl (by decide) [1, 2, 0] rfl ?_
  obtain ⟨e7, hx, hF⟩ := ob1_ex hF
  have J : KW Γ 0 0 (wX7 cI h0 h1 h2 h3 h4 p sv asd tx states len at_ letter one two number) [(1, .int e7)] 29 [] := by
    refine kw_iload_n X dX7_coinsOfPersons_29 rfl 0 rfl ?_
    obtain rfl := si1 hF
    exact hret _ _ _ (vp_nar_int _) dX7_coinsOfPersons_30
  have hL4 : ∀ (F : Nat) (v1_8 : Int32) (v2_9 : Int32), f_X7_coinsOfPersons_L4 p F v1_8 v2_9 = some (e7) → KW Γ 0 0 (wX7 cI h0 h1 h2 h3 h4 p sv asd tx states len at_ letter one two number) [(0, .ref h0), (1, .int v1_8), (2, .int v2_9)] 4 [] := by
    intro F
    induction F with
    | zero => intro v1_8 v2_9 hF; exact none_some hF
    | succ F ih4 =>
      intro v1_8 v2_9 hF
      rw [f_X7_coinsOfPersons_L4] at hF
      refine kw_iload_n X dX7_coinsOfPersons_4 rfl 2 rfl ?_
      refine kw_bipush X dX7_coinsOfPersons_5 cb_12 ?_
      refine kw_icmp_ge X 29 dX7_coinsOfPersons_7 (by decide) (fun q10 => ?_) (fun q10 => ?_)
      · replace hF := (if_neg q10).symm.trans hF
        refine kw_loc (lo' := [(1, .int v1_8)]) [1] rfl ?_
        obtain rfl := si1 hF
        exact J
      · replace hF := (if_pos q10).symm.trans hF
        refine kw_iload_n X dX7_coinsOfPersons_10 rfl 1 rfl ?_
        refine kw_aload_n X dX7_coinsOfPersons_11 rfl 0 rfl ?_
        refine kw_get X inX7 0 rfl rfl 0 (by decide) rfl gw_698 rfl dX7_coinsOfPersons_12 ?_
        refine kw_sipush X dX7_coinsOfPersons_15 cs_249 ?_
        refine kw_iload_n X dX7_coinsOfPersons_18 rfl 2 rfl ?_
        refine kw_iadd X dX7_coinsOfPersons_19 ?_
        obtain ⟨a11, hx, hF⟩ := ob1_ex hF
        obtain ⟨hin, hx⟩ := aget_ex hx
        refine kw_iald X 1 0 rfl rfl hin hx dX7_coinsOfPersons_20 ?_
        refine kw_iadd X dX7_coinsOfPersons_21 ?_
        refine kw_istore_n (lo' := [(0, .ref h0), (1, .int (v1_8 + a11)), (2, .int v2_9)]) X dX7_coinsOfPersons_22 rfl (by decide) [1, 0, 2] rfl ?_
        refine kw_iinc (lo' := [(0, .ref h0), (1, .int (v1_8 + a11)), (2, .int (v2_9 + 1))]) X dX7_coinsOfPersons_23 2 rfl (congrArg (fun w => v2_9 + w) ci_1) (by decide) [1, 2, 0] rfl ?_
        refine kw_goto X 4 dX7_coinsOfPersons_26 (by decide) ?_
        exact ih4 _ _ hF
  exact hL4 Z _ _ hx
-- X7_count
def f_X7_count (Z : Nat) (p : Nat → Int32) (states : Int32) (len : Int32) (p1 : Int32) : Option (Int32) :=
  (if p1 = 0 then ob1 (aget 986 p 322) (fun a2 => (some a2)) else (if p1 = 1 then ob1 (aget 986 p 0) (fun a4 => (some a4)) else (if p1 = 2 then (ob1 (f_X7_manyIn Z p (p1 - 2)) (fun (b6 : Int32) => (some b6))) else (if p1 = 3 then (ob1 (f_X7_manyIn Z p (p1 - 2)) (fun (b8 : Int32) => (some b8))) else (if p1 = 4 then (ob1 (f_X7_manyIn Z p (p1 - 2)) (fun (b10 : Int32) => (some b10))) else (if p1 = 5 then (ob1 (f_X7_manyIn Z p (p1 - 2)) (fun (b12 : Int32) => (some b12))) else (if p1 = 6 then (ob1 (f_X7_manyIn Z p (p1 - 2)) (fun (b14 : Int32) => (some b14))) else (if p1 = 7 then (ob1 (f_X7_brokenOnes Z p) (fun (b16 : Int32) => (some b16))) else (if p1 = 8 then ob1 (aget 986 p 321) (fun a18 => (some a18)) else (if p1 = 9 then (ob1 (f_X7_coinsOfPersons Z p) (fun (b20 : Int32) => (some b20))) else (if p1 = 10 then ob1 (aget 986 p ((323 + p1) - 10)) (fun a22 => (some a22)) else (if p1 = 11 then ob1 (aget 986 p ((323 + p1) - 10)) (fun a24 => (some a24)) else (if p1 = 12 then ob1 (aget 986 p ((323 + p1) - 10)) (fun a26 => (some a26)) else (if p1 = 13 then ob1 (aget 986 p ((323 + p1) - 10)) (fun a28 => (some a28)) else (if p1 = 14 then ob1 (aget 986 p ((323 + p1) - 10)) (fun a30 => (some a30)) else (if p1 = 15 then ob1 (aget 986 p 328) (fun a32 => ob1 (aget 986 p 657) (fun a33 => (some (a32 + a33)))) else (if p1 = 16 then (some states) else (if p1 = 17 then (some len) else (some (-1))))))))))))))))))))
abbrev rm_X7_count : Room := { frames := 2, cells := 0, slots := 0, locals := 43 }
set_option maxHeartbeats 4000000 in
set_option maxRecDepth 100000 in
theorem c_X7_count (l : Launch) (D : va_G) (cI cC cR : ClassId) (h0 h1 h2 h3 h4 : Nat) (p : Nat → Int32) (sv : Nat → Int32) (asd : Nat → Int32) (tx : Nat → Int32) (states : Int32) (len : Int32) (at_ : Int32) (letter : Int32) (one : Int32) (two : Int32) (number : Int32) (p1 : Int32) (Z : Nat) (r : Int32) (hF : f_X7_count Z p states len p1 = some r) : MPi l yX7_count cX7_count 2 (some .int) rm_X7_count D (TY cI cC cR) [.ref h0, .int p1] (wX7 cI h0 h1 h2 h3 h4 p sv asd tx states len at_ letter one two number) (.int r) := by
  refine me_p pn_X7 (Nat.le_of_ble_eq_true rfl) rfl (fun Γ X hret => ?_)
  unfold f_X7_count at hF
  refine kw_iload_n X dX7_count_0 rfl 1 rfl ?_
  by_cases q1 : p1 = 0
  · replace hF := (if_pos q1).symm.trans hF
    refine kw_tblIn X 88 dX7_count_1 (by rw [q1]; decide) (by rw [q1]; decide) (by rw [q1]; try rfl) (by decide) ?_
    refine kw_aload_n X dX7_count_88 rfl 0 rfl ?_
    refine kw_get X inX7 0 rfl rfl 0 (by decide) rfl gw_698 rfl dX7_count_89 ?_
    refine kw_sipush X dX7_count_92 cs_322 ?_
    obtain ⟨a2, hx, hF⟩ := ob1_ex hF
    obtain ⟨hin, hx⟩ := aget_ex hx
    refine kw_iald X 1 0 rfl rfl hin hx dX7_count_95 ?_
    obtain rfl := si1 hF
    exact hret _ _ _ (vp_nar_int _) dX7_count_96
  · replace hF := (if_neg q1).symm.trans hF
    by_cases q3 : p1 = 1
    · replace hF := (if_pos q3).symm.trans hF
      refine kw_tblIn X 97 dX7_count_1 (by rw [q3]; decide) (by rw [q3]; decide) (by rw [q3]; try rfl) (by decide) ?_
      refine kw_aload_n X dX7_count_97 rfl 0 rfl ?_
      refine kw_get X inX7 0 rfl rfl 0 (by decide) rfl gw_698 rfl dX7_count_98 ?_
      refine kw_iconst X dX7_count_101 ci_0 ?_
      obtain ⟨a4, hx, hF⟩ := ob1_ex hF
      obtain ⟨hin, hx⟩ := aget_ex hx
      refine kw_iald X 1 0 rfl rfl hin hx dX7_count_102 ?_
      obtain rfl := si1 hF
      exact hret _ _ _ (vp_nar_int _) dX7_count_103
    · replace hF := (if_neg q3).symm.trans hF
      by_cases q5 : p1 = 2
      · replace hF := (if_pos q5).symm.trans hF
        refine kw_tblIn X 104 dX7_count_1 (by rw [q5]; decide) (by rw [q5]; decide) (by rw [q5]; try rfl) (by decide) ?_
        refine kw_aload_n X dX7_count_104 rfl 0 rfl ?_
        refine kw_iload_n X dX7_count_105 rfl 1 rfl ?_
        refine kw_iconst X dX7_count_106 ci_2 ?_
        refine kw_isub X dX7_count_107 ?_
        obtain ⟨b6, hx6, hF⟩ := ob1_ex hF
        refine kw_ap X (r := .int b6) (As := [.int (p1 - 2)]) (st := []) (c_X7_manyIn l D cI cC cR h0 h1 h2 h3 h4 p sv asd tx states len at_ letter one two number (p1 - 2) Z b6 hx6) vl_X7_41 yv_X7_manyIn ⟨Nat.le_of_ble_eq_true rfl, Nat.le_of_ble_eq_true rfl⟩ ⟨rfl, rfl⟩ ⟨Nat.zero_le _, Nat.zero_le _⟩ 0 rfl rfl rfl rfl (Nat.le_of_ble_eq_true rfl) dX7_count_108 ?_
        obtain rfl := si1 hF
        exact hret _ _ _ (vp_nar_int _) dX7_count_111
      · replace hF := (if_neg q5).symm.trans hF
        by_cases q7 : p1 = 3
        · replace hF := (if_pos q7).symm.trans hF
          refine kw_tblIn X 104 dX7_count_1 (by rw [q7]; decide) (by rw [q7]; decide) (by rw [q7]; try rfl) (by decide) ?_
          refine kw_aload_n X dX7_count_104 rfl 0 rfl ?_
          refine kw_iload_n X dX7_count_105 rfl 1 rfl ?_
          refine kw_iconst X dX7_count_106 ci_2 ?_
          refine kw_isub X dX7_count_107 ?_
          obtain ⟨b8, hx8, hF⟩ := ob1_ex hF
          refine kw_ap X (r := .int b8) (As := [.int (p1 - 2)]) (st := []) (c_X7_manyIn l D cI cC cR h0 h1 h2 h3 h4 p sv asd tx states len at_ letter one two number (p1 - 2) Z b8 hx8) vl_X7_41 yv_X7_manyIn ⟨Nat.le_of_ble_eq_true rfl, Nat.le_of_ble_eq_true rfl⟩ ⟨rfl, rfl⟩ ⟨Nat.zero_le _, Nat.zero_le _⟩ 0 rfl rfl rfl rfl (Nat.le_of_ble_eq_true rfl) dX7_count_108 ?_
          obtain rfl := si1 hF
          exact hret _ _ _ (vp_nar_int _) dX7_count_111
        · replace hF := (if_neg q7).symm.trans hF
          by_cases q9 : p1 = 4
          · replace hF := (if_pos q9).symm.trans hF
            refine kw_tblIn X 104 dX7_count_1 (by rw [q9]; decide) (by rw [q9]; decide) (by rw [q9]; try rfl) (by decide) ?_
            refine kw_aload_n X dX7_count_104 rfl 0 rfl ?_
            refine kw_iload_n X dX7_count_105 rfl 1 rfl ?_
            refine kw_iconst X dX7_count_106 ci_2 ?_
            refine kw_isub X dX7_count_107 ?_
            obtain ⟨b10, hx10, hF⟩ := ob1_ex hF
            refine kw_ap X (r := .int b10) (As := [.int (p1 - 2)]) (st := []) (c_X7_manyIn l D cI cC cR h0 h1 h2 h3 h4 p sv asd tx states len at_ letter one two number (p1 - 2) Z b10 hx10) vl_X7_41 yv_X7_manyIn ⟨Nat.le_of_ble_eq_true rfl, Nat.le_of_ble_eq_true rfl⟩ ⟨rfl, rfl⟩ ⟨Nat.zero_le _, Nat.zero_le _⟩ 0 rfl rfl rfl rfl (Nat.le_of_ble_eq_true rfl) dX7_count_108 ?_
            obtain rfl := si1 hF
            exact hret _ _ _ (vp_nar_int _) dX7_count_111
          · replace hF := (if_neg q9).symm.trans hF
            by_cases q11 : p1 = 5
            · replace hF := (if_pos q11).symm.trans hF
              refine kw_tblIn X 104 dX7_count_1 (by rw [q11]; decide) (by rw [q11]; decide) (by rw [q11]; try rfl) (by decide) ?_
              refine kw_aload_n X dX7_count_104 rfl 0 rfl ?_
              refine kw_iload_n X dX7_count_105 rfl 1 rfl ?_
              refine kw_iconst X dX7_count_106 ci_2 ?_
              refine kw_isub X dX7_count_107 ?_
              obtain ⟨b12, hx12, hF⟩ := ob1_ex hF
              refine kw_ap X (r := .int b12) (As := [.int (p1 - 2)]) (st := []) (c_X7_manyIn l D cI cC cR h0 h1 h2 h3 h4 p sv asd tx states len at_ letter one two number (p1 - 2) Z b12 hx12) vl_X7_41 yv_X7_manyIn ⟨Nat.le_of_ble_eq_true rfl, Nat.le_of_ble_eq_true rfl⟩ ⟨rfl, rfl⟩ ⟨Nat.zero_le _, Nat.zero_le _⟩ 0 rfl rfl rfl rfl (Nat.le_of_ble_eq_true rfl) dX7_count_108 ?_
              obtain rfl := si1 hF
              exact hret _ _ _ (vp_nar_int _) dX7_count_111
            · replace hF := (if_neg q11).symm.trans hF
              by_cases q13 : p1 = 6
              · replace hF := (if_pos q13).symm.trans hF
                refine kw_tblIn X 104 dX7_count_1 (by rw [q13]; decide) (by rw [q13]; decide) (by rw [q13]; try rfl) (by decide) ?_
                refine kw_aload_n X dX7_count_104 rfl 0 rfl ?_
                refine kw_iload_n X dX7_count_105 rfl 1 rfl ?_
                refine kw_iconst X dX7_count_106 ci_2 ?_
                refine kw_isub X dX7_count_107 ?_
                obtain ⟨b14, hx14, hF⟩ := ob1_ex hF
                refine kw_ap X (r := .int b14) (As := [.int (p1 - 2)]) (st := []) (c_X7_manyIn l D cI cC cR h0 h1 h2 h3 h4 p sv asd tx states len at_ letter one two number (p1 - 2) Z b14 hx14) vl_X7_41 yv_X7_manyIn ⟨Nat.le_of_ble_eq_true rfl, Nat.le_of_ble_eq_true rfl⟩ ⟨rfl, rfl⟩ ⟨Nat.zero_le _, Nat.zero_le _⟩ 0 rfl rfl rfl rfl (Nat.le_of_ble_eq_true rfl) dX7_count_108 ?_
                obtain rfl := si1 hF
                exact hret _ _ _ (vp_nar_int _) dX7_count_111
              · replace hF := (if_neg q13).symm.trans hF
                by_cases q15 : p1 = 7
                · replace hF := (if_pos q15).symm.trans hF
                  refine kw_tblIn X 112 dX7_count_1 (by rw [q15]; decide) (by rw [q15]; decide) (by rw [q15]; try rfl) (by decide) ?_
                  refine kw_aload_n X dX7_count_112 rfl 0 rfl ?_
                  obtain ⟨b16, hx16, hF⟩ := ob1_ex hF
                  refine kw_ap X (r := .int b16) (As := []) (st := []) (c_X7_brokenOnes l D cI cC cR h0 h1 h2 h3 h4 p sv asd tx states len at_ letter one two number Z b16 hx16) vl_X7_152 yv_X7_brokenOnes ⟨Nat.le_of_ble_eq_true rfl, Nat.le_of_ble_eq_true rfl⟩ ⟨rfl, rfl⟩ ⟨Nat.zero_le _, Nat.zero_le _⟩ 0 rfl rfl rfl rfl (Nat.le_of_ble_eq_true rfl) dX7_count_113 ?_
                  obtain rfl := si1 hF
                  exact hret _ _ _ (vp_nar_int _) dX7_count_116
                · replace hF := (if_neg q15).symm.trans hF
                  by_cases q17 : p1 = 8
                  · replace hF := (if_pos q17).symm.trans hF
                    refine kw_tblIn X 117 dX7_count_1 (by rw [q17]; decide) (by rw [q17]; decide) (by rw [q17]; try rfl) (by decide) ?_
                    refine kw_aload_n X dX7_count_117 rfl 0 rfl ?_
                    refine kw_get X inX7 0 rfl rfl 0 (by decide) rfl gw_698 rfl dX7_count_118 ?_
                    refine kw_sipush X dX7_count_121 cs_321 ?_
                    obtain ⟨a18, hx, hF⟩ := ob1_ex hF
                    obtain ⟨hin, hx⟩ := aget_ex hx
                    refine kw_iald X 1 0 rfl rfl hin hx dX7_count_124 ?_
                    obtain rfl := si1 hF
                    exact hret _ _ _ (vp_nar_int _) dX7_count_125
                  · replace hF := (if_neg q17).symm.trans hF
                    by_cases q19 : p1 = 9
                    · replace hF := (if_pos q19).symm.trans hF
                      refine kw_tblIn X 126 dX7_count_1 (by rw [q19]; decide) (by rw [q19]; decide) (by rw [q19]; try rfl) (by decide) ?_
                      refine kw_aload_n X dX7_count_126 rfl 0 rfl ?_
                      obtain ⟨b20, hx20, hF⟩ := ob1_ex hF
                      refine kw_ap X (r := .int b20) (As := []) (st := []) (c_X7_coinsOfPersons l D cI cC cR h0 h1 h2 h3 h4 p sv asd tx states len at_ letter one two number Z b20 hx20) vl_X7_155 yv_X7_coinsOfPersons ⟨Nat.le_of_ble_eq_true rfl, Nat.le_of_ble_eq_true rfl⟩ ⟨rfl, rfl⟩ ⟨Nat.zero_le _, Nat.zero_le _⟩ 0 rfl rfl rfl rfl (Nat.le_of_ble_eq_true rfl) dX7_count_127 ?_
                      obtain rfl := si1 hF
                      exact hret _ _ _ (vp_nar_int _) dX7_count_130
                    · replace hF := (if_neg q19).symm.trans hF
                      by_cases q21 : p1 = 10
                      · replace hF := (if_pos q21).symm.trans hF
                        refine kw_tblIn X 131 dX7_count_1 (by rw [q21]; decide) (by rw [q21]; decide) (by rw [q21]; try rfl) (by decide) ?_
                        refine kw_aload_n X dX7_count_131 rfl 0 rfl ?_
                        refine kw_get X inX7 0 rfl rfl 0 (by decide) rfl gw_698 rfl dX7_count_132 ?_
                        refine kw_sipush X dX7_count_135 cs_323 ?_
                        refine kw_iload_n X dX7_count_138 rfl 1 rfl ?_
                        refine kw_iadd X dX7_count_139 ?_
                        refine kw_bipush X dX7_count_140 cb_10 ?_
                        refine kw_isub X dX7_count_142 ?_
                        obtain ⟨a22, hx, hF⟩ := ob1_ex hF
                        obtain ⟨hin, hx⟩ := aget_ex hx
                        refine kw_iald X 1 0 rfl rfl hin hx dX7_count_143 ?_
                        obtain rfl := si1 hF
                        exact hret _ _ _ (vp_nar_int _) dX7_count_144
                      · replace hF := (if_neg q21).symm.trans hF
                        by_cases q23 : p1 = 11
                        · replace hF := (if_pos q23).symm.trans hF
                          refine kw_tblIn X 131 dX7_count_1 (by rw [q23]; decide) (by rw [q23]; decide) (by rw [q23]; try rfl) (by decide) ?_
                          refine kw_aload_n X dX7_count_131 rfl 0 rfl ?_
                          refine kw_get X inX7 0 rfl rfl 0 (by decide) rfl gw_698 rfl dX7_count_132 ?_
                          refine kw_sipush X dX7_count_135 cs_323 ?_
                          refine kw_iload_n X dX7_count_138 rfl 1 rfl ?_
                          refine kw_iadd X dX7_count_139 ?_
                          refine kw_bipush X dX7_count_140 cb_10 ?_
                          refine kw_isub X dX7_count_142 ?_
                          obtain ⟨a24, hx, hF⟩ := ob1_ex hF
                          obtain ⟨hin, hx⟩ := aget_ex hx
                          refine kw_iald X 1 0 rfl rfl hin hx dX7_count_143 ?_
                          obtain rfl := si1 hF
                          exact hret _ _ _ (vp_nar_int _) dX7_count_144
                        · replace hF := (if_neg q23).symm.trans hF
                          by_cases q25 : p1 = 12
                          · replace hF := (if_pos q25).symm.trans hF
                            refine kw_tblIn X 131 dX7_count_1 (by rw [q25]; decide) (by rw [q25]; decide) (by rw [q25]; try rfl) (by decide) ?_
                            refine kw_aload_n X dX7_count_131 rfl 0 rfl ?_
                            refine kw_get X inX7 0 rfl rfl 0 (by decide) rfl gw_698 rfl dX7_count_132 ?_
                            refine kw_sipush X dX7_count_135 cs_323 ?_
                            refine kw_iload_n X dX7_count_138 rfl 1 rfl ?_
                            refine kw_iadd X dX7_count_139 ?_
                            refine kw_bipush X dX7_count_140 cb_10 ?_
                            refine kw_isub X dX7_count_142 ?_
                            obtain ⟨a26, hx, hF⟩ := ob1_ex hF
                            obtain ⟨hin, hx⟩ := aget_ex hx
                            refine kw_iald X 1 0 rfl rfl hin hx dX7_count_143 ?_
                            obtain rfl := si1 hF
                            exact hret _ _ _ (vp_nar_int _) dX7_count_144
                          · replace hF := (if_neg q25).symm.trans hF
                            by_cases q27 : p1 = 13
                            · replace hF := (if_pos q27).symm.trans hF
                              refine kw_tblIn X 131 dX7_count_1 (by rw [q27]; decide) (by rw [q27]; decide) (by rw [q27]; try rfl) (by decide) ?_
                              refine kw_aload_n X dX7_count_131 rfl 0 rfl ?_
                              refine kw_get X inX7 0 rfl rfl 0 (by decide) rfl gw_698 rfl dX7_count_132 ?_
                              refine kw_sipush X dX7_count_135 cs_323 ?_
                              refine kw_iload_n X dX7_count_138 rfl 1 rfl ?_
                              refine kw_iadd X dX7_count_139 ?_
                              refine kw_bipush X dX7_count_140 cb_10 ?_
                              refine kw_isub X dX7_count_142 ?_
                              obtain ⟨a28, hx, hF⟩ := ob1_ex hF
                              obtain ⟨hin, hx⟩ := aget_ex hx
                              refine kw_iald X 1 0 rfl rfl hin hx dX7_count_143 ?_
                              obtain rfl := si1 hF
                              exact hret _ _ _ (vp_nar_int _) dX7_count_144
                            · replace hF := (if_neg q27).symm.trans hF
                              by_cases q29 : p1 = 14
                              · replace hF := (if_pos q29).symm.trans hF
                                refine kw_tblIn X 131 dX7_count_1 (by rw [q29]; decide) (by rw [q29]; decide) (by rw [q29]; try rfl) (by decide) ?_
                                refine kw_aload_n X dX7_count_131 rfl 0 rfl ?_
                                refine kw_get X inX7 0 rfl rfl 0 (by decide) rfl gw_698 rfl dX7_count_132 ?_
                                refine kw_sipush X dX7_count_135 cs_323 ?_
                                refine kw_iload_n X dX7_count_138 rfl 1 rfl ?_
                                refine kw_iadd X dX7_count_139 ?_
                                refine kw_bipush X dX7_count_140 cb_10 ?_
                                refine kw_isub X dX7_count_142 ?_
                                obtain ⟨a30, hx, hF⟩ := ob1_ex hF
                                obtain ⟨hin, hx⟩ := aget_ex hx
                                refine kw_iald X 1 0 rfl rfl hin hx dX7_count_143 ?_
                                obtain rfl := si1 hF
                                exact hret _ _ _ (vp_nar_int _) dX7_count_144
                              · replace hF := (if_neg q29).symm.trans hF
                                by_cases q31 : p1 = 15
                                · replace hF := (if_pos q31).symm.trans hF
                                  refine kw_tblIn X 145 dX7_count_1 (by rw [q31]; decide) (by rw [q31]; decide) (by rw [q31]; try rfl) (by decide) ?_
                                  refine kw_aload_n X dX7_count_145 rfl 0 rfl ?_
                                  refine kw_get X inX7 0 rfl rfl 0 (by decide) rfl gw_698 rfl dX7_count_146 ?_
                                  refine kw_sipush X dX7_count_149 cs_328 ?_
                                  obtain ⟨a32, hx, hF⟩ := ob1_ex hF
                                  obtain ⟨hin, hx⟩ := aget_ex hx
                                  refine kw_iald X 1 0 rfl rfl hin hx dX7_count_152 ?_
                                  refine kw_aload_n X dX7_count_153 rfl 0 rfl ?_
                                  refine kw_get X inX7 0 rfl rfl 0 (by decide) rfl gw_698 rfl dX7_count_154 ?_
                                  refine kw_sipush X dX7_count_157 cs_657 ?_
                                  obtain ⟨a33, hx, hF⟩ := ob1_ex hF
                                  obtain ⟨hin, hx⟩ := aget_ex hx
                                  refine kw_iald X 1 0 rfl rfl hin hx dX7_count_160 ?_
                                  refine kw_iadd X dX7_count_161 ?_
                                  obtain rfl := si1 hF
                                  exact hret _ _ _ (vp_nar_int _) dX7_count_162
                                · replace hF := (if_neg q31).symm.trans hF
                                  by_cases q34 : p1 = 16
                                  · replace hF := (if_pos q34).symm.trans hF
                                    refine kw_tblIn X 163 dX7_count_1 (by rw [q34]; decide) (by rw [q34]; decide) (by rw [q34]; try rfl) (by decide) ?_
                                    refine kw_aload_n X dX7_count_163 rfl 0 rfl ?_
                                    refine kw_get X inX7 0 rfl rfl 3 (by decide) rfl gw_701 rfl dX7_count_164 ?_
                                    obtain rfl := si1 hF
                                    exact hret _ _ _ (vp_nar_int _) dX7_count_167
                                  · replace hF := (if_neg q34).symm.trans hF
                                    by_cases q35 : p1 = 17
                                    · replace hF := (if_pos q35).symm.trans hF
                                      refine kw_tblIn X 168 dX7_count_1 (by rw [q35]; decide) (by rw [q35]; decide) (by rw [q35]; try rfl) (by decide) ?_
                                      refine kw_aload_n X dX7_count_168 rfl 0 rfl ?_
                                      refine kw_get X inX7 0 rfl rfl 5 (by decide) rfl gw_703 rfl dX7_count_169 ?_
                                      obtain rfl := si1 hF
                                      exact hret _ _ _ (vp_nar_int _) dX7_count_172
                                    · replace hF := (if_neg q35).symm.trans hF
                                      have n0 := ne_toInt q1 (n := 0) (by decide)
                                      have n1 := ne_toInt q3 (n := 1) (by decide)
                                      have n2 := ne_toInt q5 (n := 2) (by decide)
                                      have n3 := ne_toInt q7 (n := 3) (by decide)
                                      have n4 := ne_toInt q9 (n := 4) (by decide)
                                      have n5 := ne_toInt q11 (n := 5) (by decide)
                                      have n6 := ne_toInt q13 (n := 6) (by decide)
                                      have n7 := ne_toInt q15 (n := 7) (by decide)
                                      have n8 := ne_toInt q17 (n := 8) (by decide)
                                      have n9 := ne_toInt q19 (n := 9) (by decide)
                                      have n10 := ne_toInt q21 (n := 10) (by decide)
                                      have n11 := ne_toInt q23 (n := 11) (by decide)
                                      have n12 := ne_toInt q25 (n := 12) (by decide)
                                      have n13 := ne_toInt q27 (n := 13) (by decide)
                                      have n14 := ne_toInt q29 (n := 14) (by decide)
                                      have n15 := ne_toInt q31 (n := 15) (by decide)
                                      have n16 := ne_toInt q34 (n := 16) (by decide)
                                      have n17 := ne_toInt q35 (n := 17) (by decide)
                                      refine kw_tblOut X 173 dX7_count_1 (by omega) (by decide) ?_
                                      refine kw_iconst X dX7_count_173 ci_m1 ?_
                                      obtain rfl := si1 hF
                                      exact hret _ _ _ (vp_nar_int _) dX7_count_174
-- X7_umbrella
def f_X7_umbrella (p : Nat → Int32) (p1 : Int32) (p2 : Int32) : Option (Int32) :=
  ob1 (aget 986 p 0) (fun a1 => (if (f_X7_in p1 0 (a1 - 1)) = 0 then (some (-1)) else (if p2 = 0 then ob1 (aget 986 p (1 + p1)) (fun a4 => (some a4)) else (if p2 = 1 then ob1 (aget 986 p (1 + p1)) (fun a6 => (if 2 < a6 then (some (-9)) else ob1 (aget 986 p (61 + p1)) (fun a8 => (some a8)))) else (if p2 = 2 then ob1 (aget 986 p (121 + p1)) (fun a10 => (some a10)) else (if p2 = 3 then (ob1 (f_X7_isBroken p p1) (fun (b12 : Int32) => (if b12 = 0 then (some 0) else (some 1)))) else (if p2 = 4 then ob1 (aget 986 p (181 + p1)) (fun a15 => (some a15)) else (some (-1)))))))))
abbrev rm_X7_umbrella : Room := { frames := 1, cells := 0, slots := 0, locals := 22 }
set_option maxHeartbeats 4000000 in
set_option maxRecDepth 100000 in
theorem c_X7_umbrella (l : Launch) (D : va_G) (cI cC cR : ClassId) (h0 h1 h2 h3 h4 : Nat) (p : Nat → Int32) (sv : Nat → Int32) (asd : Nat → Int32) (tx : Nat → Int32) (states : Int32) (len : Int32) (at_ : Int32) (letter : Int32) (one : Int32) (two : Int32) (number : Int32) (p1 : Int32) (p2 : Int32) (r : Int32) (hF : f_X7_umbrella p p1 p2 = some r) : MPi l yX7_umbrella cX7_umbrella 3 (some .int) rm_X7_umbrella D (TY cI cC cR) [.ref h0, .int p1, .int p2] (wX7 cI h0 h1 h2 h3 h4 p sv asd tx states len at_ letter one two number) (.int r) := by
  refine me_p pn_X7 (Nat.le_of_ble_eq_true rfl) rfl (fun Γ X hret => ?_)
  unfold f_X7_umbrella at hF
  refine kw_iload_n X dX7_umbrella_0 rfl 1 rfl ?_
  refine kw_iconst X dX7_umbrella_1 ci_0 ?_
  refine kw_aload_n X dX7_umbrella_2 rfl 0 rfl ?_
  refine kw_get X inX7 0 rfl rfl 0 (by decide) rfl gw_698 rfl dX7_umbrella_3 ?_
  refine kw_iconst X dX7_umbrella_6 ci_0 ?_
  obtain ⟨a1, hx, hF⟩ := ob1_ex hF
  obtain ⟨hin, hx⟩ := aget_ex hx
  refine kw_iald X 1 0 rfl rfl hin hx dX7_umbrella_7 ?_
  refine kw_iconst X dX7_umbrella_8 ci_1 ?_
  refine kw_isub X dX7_umbrella_9 ?_
  refine kw_sp X (r := .int (f_X7_in p1 0 (a1 - 1))) (As := [.int p1, .int 0, .int (a1 - 1)]) (st := []) (c_X7_in l D cI cC cR  p1 0 (a1 - 1) (f_X7_in p1 0 (a1 - 1)) rfl) vl_X7_22 yv_X7_in ⟨Nat.le_of_ble_eq_true rfl, Nat.le_of_ble_eq_true rfl⟩ ⟨rfl, rfl⟩ ⟨Nat.zero_le _, Nat.zero_le _⟩ [] rfl rfl rfl rfl (Nat.le_of_ble_eq_true rfl) dX7_umbrella_10 ?_
  refine kw_if_ne X 18 dX7_umbrella_13 (by decide) (fun q2 => ?_) (fun q2 => ?_)
  · replace hF := (if_neg q2).symm.trans hF
    refine kw_iload_n X dX7_umbrella_18 rfl 2 rfl ?_
    by_cases q3 : p2 = 0
    · replace hF := (if_pos q3).symm.trans hF
      refine kw_tblIn X 52 dX7_umbrella_19 (by rw [q3]; decide) (by rw [q3]; decide) (by rw [q3]; try rfl) (by decide) ?_
      refine kw_aload_n X dX7_umbrella_52 rfl 0 rfl ?_
      refine kw_get X inX7 0 rfl rfl 0 (by decide) rfl gw_698 rfl dX7_umbrella_53 ?_
      refine kw_iconst X dX7_umbrella_56 ci_1 ?_
      refine kw_iload_n X dX7_umbrella_57 rfl 1 rfl ?_
      refine kw_iadd X dX7_umbrella_58 ?_
      obtain ⟨a4, hx, hF⟩ := ob1_ex hF
      obtain ⟨hin, hx⟩ := aget_ex hx
      refine kw_iald X 1 0 rfl rfl hin hx dX7_umbrella_59 ?_
      obtain rfl := si1 hF
      exact hret _ _ _ (vp_nar_int _) dX7_umbrella_60
    · replace hF := (if_neg q3).symm.trans hF
      by_cases q5 : p2 = 1
      · replace hF := (if_pos q5).symm.trans hF
        refine kw_tblIn X 61 dX7_umbrella_19 (by rw [q5]; decide) (by rw [q5]; decide) (by rw [q5]; try rfl) (by decide) ?_
        refine kw_aload_n X dX7_umbrella_61 rfl 0 rfl ?_
        refine kw_get X inX7 0 rfl rfl 0 (by decide) rfl gw_698 rfl dX7_umbrella_62 ?_
        refine kw_iconst X dX7_umbrella_65 ci_1 ?_
        refine kw_iload_n X dX7_umbrella_66 rfl 1 rfl ?_
        refine kw_iadd X dX7_umbrella_67 ?_
        obtain ⟨a6, hx, hF⟩ := ob1_ex hF
        obtain ⟨hin, hx⟩ := aget_ex hx
        refine kw_iald X 1 0 rfl rfl hin hx dX7_umbrella_68 ?_
        refine kw_iconst X dX7_umbrella_69 ci_2 ?_
        refine kw_icmp_le X 78 dX7_umbrella_70 (by decide) (fun q7 => ?_) (fun q7 => ?_)
        · replace hF := (if_neg q7).symm.trans hF
          refine kw_aload_n X dX7_umbrella_78 rfl 0 rfl ?_
          refine kw_get X inX7 0 rfl rfl 0 (by decide) rfl gw_698 rfl dX7_umbrella_79 ?_
          refine kw_bipush X dX7_umbrella_82 cb_61 ?_
          refine kw_iload_n X dX7_umbrella_84 rfl 1 rfl ?_
          refine kw_iadd X dX7_umbrella_85 ?_
          obtain ⟨a8, hx, hF⟩ := ob1_ex hF
          obtain ⟨hin, hx⟩ := aget_ex hx
          refine kw_iald X 1 0 rfl rfl hin hx dX7_umbrella_86 ?_
          obtain rfl := si1 hF
          exact hret _ _ _ (vp_nar_int _) dX7_umbrella_87
        · replace hF := (if_pos q7).symm.trans hF
          refine kw_bipush X dX7_umbrella_73 cb_m9 ?_
          refine kw_goto X 87 dX7_umbrella_75 (by decide) ?_
          obtain rfl := si1 hF
          exact hret _ _ _ (vp_nar_int _) dX7_umbrella_87
      · replace hF := (if_neg q5).symm.trans hF
        by_cases q9 : p2 = 2
        · replace hF := (if_pos q9).symm.trans hF
          refine kw_tblIn X 88 dX7_umbrella_19 (by rw [q9]; decide) (by rw [q9]; decide) (by rw [q9]; try rfl) (by decide) ?_
          refine kw_aload_n X dX7_umbrella_88 rfl 0 rfl ?_
          refine kw_get X inX7 0 rfl rfl 0 (by decide) rfl gw_698 rfl dX7_umbrella_89 ?_
          refine kw_bipush X dX7_umbrella_92 cb_121 ?_
          refine kw_iload_n X dX7_umbrella_94 rfl 1 rfl ?_
          refine kw_iadd X dX7_umbrella_95 ?_
          obtain ⟨a10, hx, hF⟩ := ob1_ex hF
          obtain ⟨hin, hx⟩ := aget_ex hx
          refine kw_iald X 1 0 rfl rfl hin hx dX7_umbrella_96 ?_
          obtain rfl := si1 hF
          exact hret _ _ _ (vp_nar_int _) dX7_umbrella_97
        · replace hF := (if_neg q9).symm.trans hF
          by_cases q11 : p2 = 3
          · replace hF := (if_pos q11).symm.trans hF
            refine kw_tblIn X 98 dX7_umbrella_19 (by rw [q11]; decide) (by rw [q11]; decide) (by rw [q11]; try rfl) (by decide) ?_
            refine kw_aload_n X dX7_umbrella_98 rfl 0 rfl ?_
            refine kw_iload_n X dX7_umbrella_99 rfl 1 rfl ?_
            obtain ⟨b12, hx12, hF⟩ := ob1_ex hF
            refine kw_ap X (r := .int b12) (As := [.int p1]) (st := []) (c_X7_isBroken l D cI cC cR h0 h1 h2 h3 h4 p sv asd tx states len at_ letter one two number p1 b12 hx12) vl_X7_33 yv_X7_isBroken ⟨Nat.le_of_ble_eq_true rfl, Nat.le_of_ble_eq_true rfl⟩ ⟨rfl, rfl⟩ ⟨Nat.zero_le _, Nat.zero_le _⟩ 0 rfl rfl rfl rfl (Nat.le_of_ble_eq_true rfl) dX7_umbrella_100 ?_
            refine kw_if_eq X 110 dX7_umbrella_103 (by decide) (fun q13 => ?_) (fun q13 => ?_)
            · replace hF := (if_pos q13).symm.trans hF
              refine kw_iconst X dX7_umbrella_110 ci_0 ?_
              obtain rfl := si1 hF
              exact hret _ _ _ (vp_nar_int _) dX7_umbrella_111
            · replace hF := (if_neg q13).symm.trans hF
              refine kw_iconst X dX7_umbrella_106 ci_1 ?_
              refine kw_goto X 111 dX7_umbrella_107 (by decide) ?_
              obtain rfl := si1 hF
              exact hret _ _ _ (vp_nar_int _) dX7_umbrella_111
          · replace hF := (if_neg q11).symm.trans hF
            by_cases q14 : p2 = 4
            · replace hF := (if_pos q14).symm.trans hF
              refine kw_tblIn X 112 dX7_umbrella_19 (by rw [q14]; decide) (by rw [q14]; decide) (by rw [q14]; try rfl) (by decide) ?_
              refine kw_aload_n X dX7_umbrella_112 rfl 0 rfl ?_
              refine kw_get X inX7 0 rfl rfl 0 (by decide) rfl gw_698 rfl dX7_umbrella_113 ?_
              refine kw_sipush X dX7_umbrella_116 cs_181 ?_
              refine kw_iload_n X dX7_umbrella_119 rfl 1 rfl ?_
              refine kw_iadd X dX7_umbrella_120 ?_
              obtain ⟨a15, hx, hF⟩ := ob1_ex hF
              obtain ⟨hin, hx⟩ := aget_ex hx
              refine kw_iald X 1 0 rfl rfl hin hx dX7_umbrella_121 ?_
              obtain rfl := si1 hF
              exact hret _ _ _ (vp_nar_int _) dX7_umbrella_122
            · replace hF := (if_neg q14).symm.trans hF
              have n0 := ne_toInt q3 (n := 0) (by decide)
              have n1 := ne_toInt q5 (n := 1) (by decide)
              have n2 := ne_toInt q9 (n := 2) (by decide)
              have n3 := ne_toInt q11 (n := 3) (by decide)
              have n4 := ne_toInt q14 (n := 4) (by decide)
              refine kw_tblOut X 123 dX7_umbrella_19 (by omega) (by decide) ?_
              refine kw_iconst X dX7_umbrella_123 ci_m1 ?_
              obtain rfl := si1 hF
              exact hret _ _ _ (vp_nar_int _) dX7_umbrella_124
  · replace hF := (if_pos q2).symm.trans hF
    refine kw_iconst X dX7_umbrella_16 ci_m1 ?_
    obtain rfl := si1 hF
    exact hret _ _ _ (vp_nar_int _) dX7_umbrella_17
-- X7_told
def f_X7_told (p1 : Int32) : Int32 :=
  (if p1 < 0 then (-9) else p1)
abbrev rm_X7_told : Room := { frames := 0, cells := 0, slots := 0, locals := 0 }
set_option maxHeartbeats 4000000 in
set_option maxRecDepth 100000 in
theorem c_X7_told (l : Launch) (D : va_G) (cI cC cR : ClassId) (p1 : Int32) (r : Int32) (hF : f_X7_told p1 = r) : MPi l yX7_told cX7_told 1 (some .int) rm_X7_told D (TY cI cC cR) [.int p1] ([]) (.int r) := by
  refine me_p pn_X7 (Nat.le_of_ble_eq_true rfl) rfl (fun Γ X hret => ?_)
  unfold f_X7_told at hF
  refine kw_iload_n X dX7_told_0 rfl 0 rfl ?_
  refine kw_if_ge X 9 dX7_told_1 (by decide) (fun q1 => ?_) (fun q1 => ?_)
  · replace hF := (if_neg q1).symm.trans hF
    refine kw_iload_n X dX7_told_9 rfl 0 rfl ?_
    obtain rfl := ti1 hF
    exact hret _ _ _ (vp_nar_int _) dX7_told_10
  · replace hF := (if_pos q1).symm.trans hF
    refine kw_bipush X dX7_told_4 cb_m9 ?_
    refine kw_goto X 10 dX7_told_6 (by decide) ?_
    obtain rfl := ti1 hF
    exact hret _ _ _ (vp_nar_int _) dX7_told_10
-- X7_meanOf
def f_X7_meanOf_L4 (p : Nat → Int32) (p1 : Int32) : Nat → Int32 → Int32 → Option (Int32)
  | 0, _, _ => none
  | F + 1, v2_23, v3_24 => ob1 (aget 986 p 0) (fun a25 => (if v3_24 < a25 then (ob1 (f_X7_isAt p v3_24 0 p1) (fun (b27 : Int32) => (ob1 (if b27 = 0 then (some 0) else ob1 (aget 986 p (121 + v3_24)) (fun a32 => (some a32))) (fun (x30 : Int32) => (f_X7_meanOf_L4 p p1 F (v2_23 + x30) (v3_24 + 1)))))) else (some (v2_23))))
def f_X7_meanOf (Z : Nat) (p : Nat → Int32) (p1 : Int32) : Option (Int32) :=
  (ob1 (f_X7_meanOf_L4 p p1 Z 0 0) (fun (e19 : Int32) => (ob1 (f_X7_manyAt Z p 0 p1) (fun (b20 : Int32) => (if b20 = 0 then (some 0) else ob1 (odiv (100 * e19) (8 * b20)) (fun d22 => (some ((100 * e19) / (8 * b20)))))))))
abbrev rm_X7_meanOf : Room := { frames := 2, cells := 0, slots := 0, locals := 47 }
set_option maxHeartbeats 4000000 in
set_option maxRecDepth 100000 in
theorem c_X7_meanOf (l : Launch) (D : va_G) (cI cC cR : ClassId) (h0 h1 h2 h3 h4 : Nat) (p : Nat → Int32) (sv : Nat → Int32) (asd : Nat → Int32) (tx : Nat → Int32) (states : Int32) (len : Int32) (at_ : Int32) (letter : Int32) (one : Int32) (two : Int32) (number : Int32) (p1 : Int32) (Z : Nat) (r : Int32) (hF : f_X7_meanOf Z p p1 = some r) : MPi l yX7_meanOf cX7_meanOf 4 (some .int) rm_X7_meanOf D (TY cI cC cR) [.ref h0, .int p1] (wX7 cI h0 h1 h2 h3 h4 p sv asd tx states len at_ letter one two number) (.int r) := by
  refine me_p pn_X7 (Nat.le_of_ble_eq_true rfl) rfl (fun Γ X hret => ?_)
  unfold f_X7_meanOf at hF
  refine kw_iconst X dX7_meanOf_0 ci_0 ?_
  refine kw_istore_n (lo' := [(0, .ref h0), (1, .int p1), (2, .int 0)]) X dX7_meanOf_1 rfl (by decide) [1, 2, 0] rfl ?_
  refine kw_iconst X dX7_meanOf_2 ci_0 ?_
  refine kw_istore_n (lo' := [(0, .ref h0), (1, .int p1), (2, .int 0), (3, .int 0)]) X dX7_meanOf_3 rfl (by decide) [1, 2, 3, 0] rfl ?_
  obtain ⟨e19, hx, hF⟩ := ob1_ex hF
  have J : KW Γ 0 0 (wX7 cI h0 h1 h2 h3 h4 p sv asd tx states len at_ letter one two number) [(0, .ref h0), (1, .int p1), (2, .int e19)] 46 [] := by
    refine kw_aload_n X dX7_meanOf_46 rfl 0 rfl ?_
    refine kw_iconst X dX7_meanOf_47 ci_0 ?_
    refine kw_iload_n X dX7_meanOf_48 rfl 1 rfl ?_
    obtain ⟨b20, hx20, hF⟩ := ob1_ex hF
    refine kw_ap X (r := .int b20) (As := [.int 0, .int p1]) (st := []) (c_X7_manyAt l D cI cC cR h0 h1 h2 h3 h4 p sv asd tx states len at_ letter one two number 0 p1 Z b20 hx20) vl_X7_37 yv_X7_manyAt ⟨Nat.le_of_ble_eq_true rfl, Nat.le_of_ble_eq_true rfl⟩ ⟨rfl, rfl⟩ ⟨Nat.zero_le _, Nat.zero_le _⟩ 0 rfl rfl rfl rfl (Nat.le_of_ble_eq_true rfl) dX7_meanOf_49 ?_
    refine kw_istore_n (lo' := [(0, .ref h0), (1, .int p1), (2, .int e19), (3, .int b20)]) X dX7_meanOf_52 rfl (by decide) [1, 2, 3, 0] rfl ?_
    refine kw_iload_n X dX7_meanOf_53 rfl 3 rfl ?_
    refine kw_if_ne X 61 dX7_meanOf_54 (by decide) (fun q21 => ?_) (fun q21 => ?_)
    · replace hF := (if_neg q21).symm.trans hF
      refine kw_bipush X dX7_meanOf_61 cb_100 ?_
      refine kw_iload_n X dX7_meanOf_63 rfl 2 rfl ?_
      refine kw_imul X dX7_meanOf_64 ?_
      refine kw_bipush X dX7_meanOf_65 cb_8 ?_
      refine kw_iload_n X dX7_meanOf_67 rfl 3 rfl ?_
      refine kw_imul X dX7_meanOf_68 ?_
      obtain ⟨d22, hx, hF⟩ := ob1_ex hF
      obtain ⟨hnz, rfl⟩ := odiv_ex hx
      refine kw_idiv X dX7_meanOf_69 hnz ?_
      obtain rfl := si1 hF
      exact hret _ _ _ (vp_nar_int _) dX7_meanOf_70
    · replace hF := (if_pos q21).symm.trans hF
      refine kw_iconst X dX7_meanOf_57 ci_0 ?_
      refine kw_goto X 70 dX7_meanOf_58 (by decide) ?_
      obtain rfl := si1 hF
      exact hret _ _ _ (vp_nar_int _) dX7_meanOf_70
  have hL4 : ∀ (F : Nat) (v2_23 : Int32) (v3_24 : Int32), f_X7_meanOf_L4 p p1 F v2_23 v3_24 = some (e19) → KW Γ 0 0 (wX7 cI h0 h1 h2 h3 h4 p sv asd tx states len at_ letter one two number) [(0, .ref h0), (1, .int p1), (2, .int v2_23), (3, .int v3_24)] 4 [] := by
    intro F
    induction F with
    | zero => intro v2_23 v3_24 hF; exact none_some hF
    | succ F ih4 =>
      intro v2_23 v3_24 hF
      rw [f_X7_meanOf_L4] at hF
      refine kw_iload_n X dX7_meanOf_4 rfl 3 rfl ?_
      refine kw_aload_n X dX7_meanOf_5 rfl 0 rfl ?_
      refine kw_get X inX7 0 rfl rfl 0 (by decide) rfl gw_698 rfl dX7_meanOf_6 ?_
      refine kw_iconst X dX7_meanOf_9 ci_0 ?_
      obtain ⟨a25, hx, hF⟩ := ob1_ex hF
      obtain ⟨hin, hx⟩ := aget_ex hx
      refine kw_iald X 1 0 rfl rfl hin hx dX7_meanOf_10 ?_
      refine kw_icmp_ge X 46 dX7_meanOf_11 (by decide) (fun q26 => ?_) (fun q26 => ?_)
      · replace hF := (if_neg q26).symm.trans hF
        refine kw_loc (lo' := [(0, .ref h0), (1, .int p1), (2, .int v2_23)]) [0, 1, 2] rfl ?_
        obtain rfl := si1 hF
        exact J
      · replace hF := (if_pos q26).symm.trans hF
        refine kw_iload_n X dX7_meanOf_14 rfl 2 rfl ?_
        refine kw_aload_n X dX7_meanOf_15 rfl 0 rfl ?_
        refine kw_iload_n X dX7_meanOf_16 rfl 3 rfl ?_
        refine kw_iconst X dX7_meanOf_17 ci_0 ?_
        refine kw_iload_n X dX7_meanOf_18 rfl 1 rfl ?_
        obtain ⟨b27, hx27, hF⟩ := ob1_ex hF
        refine kw_ap X (r := .int b27) (As := [.int v3_24, .int 0, .int p1]) (st := [.int v2_23]) (c_X7_isAt l D cI cC cR h0 h1 h2 h3 h4 p sv asd tx states len at_ letter one two number v3_24 0 p1 b27 hx27) vl_X7_30 yv_X7_isAt ⟨Nat.le_of_ble_eq_true rfl, Nat.le_of_ble_eq_true rfl⟩ ⟨rfl, rfl⟩ ⟨Nat.zero_le _, Nat.zero_le _⟩ 0 rfl rfl rfl rfl (Nat.le_of_ble_eq_true rfl) dX7_meanOf_19 ?_
        obtain ⟨x30, hx31, hF⟩ := ob1_ex hF
        have J : KW Γ 0 0 (wX7 cI h0 h1 h2 h3 h4 p sv asd tx states len at_ letter one two number) [(0, .ref h0), (1, .int p1), (3, .int v3_24)] 38 [.int x30, .int v2_23] := by
          refine kw_iadd X dX7_meanOf_38 ?_
          refine kw_istore_n (lo' := [(0, .ref h0), (1, .int p1), (2, .int (v2_23 + x30)), (3, .int v3_24)]) X dX7_meanOf_39 rfl (by decide) [1, 2, 0, 3] rfl ?_
          refine kw_iinc (lo' := [(0, .ref h0), (1, .int p1), (2, .int (v2_23 + x30)), (3, .int (v3_24 + 1))]) X dX7_meanOf_40 3 rfl (congrArg (fun w => v3_24 + w) ci_1) (by decide) [1, 2, 3, 0] rfl ?_
          refine kw_goto X 4 dX7_meanOf_43 (by decide) ?_
          exact ih4 _ _ hF
        replace hF := hx31
        refine kw_if_eq X 37 dX7_meanOf_22 (by decide) (fun q28 => ?_) (fun q28 => ?_)
        · replace hF := (if_pos q28).symm.trans hF
          refine kw_iconst X dX7_meanOf_37 ci_0 ?_
          refine kw_loc (lo' := [(0, .ref h0), (1, .int p1), (3, .int v3_24)]) [0, 1, 3] rfl ?_
          obtain rfl := si1 hF
          exact J
        · replace hF := (if_neg q28).symm.trans hF
          refine kw_aload_n X dX7_meanOf_25 rfl 0 rfl ?_
          refine kw_get X inX7 0 rfl rfl 0 (by decide) rfl gw_698 rfl dX7_meanOf_26 ?_
          refine kw_bipush X dX7_meanOf_29 cb_121 ?_
          refine kw_iload_n X dX7_meanOf_31 rfl 3 rfl ?_
          refine kw_iadd X dX7_meanOf_32 ?_
          obtain ⟨a32, hx, hF⟩ := ob1_ex hF
          obtain ⟨hin, hx⟩ := aget_ex hx
          refine kw_iald X 1 0 rfl rfl hin hx dX7_meanOf_33 ?_
          refine kw_goto X 38 dX7_meanOf_34 (by decide) ?_
          refine kw_loc (lo' := [(0, .ref h0), (1, .int p1), (3, .int v3_24)]) [0, 1, 3] rfl ?_
          obtain rfl := si1 hF
          exact J
  exact hL4 Z _ _ hx
-- X7_stand
def f_X7_stand (Z : Nat) (p : Nat → Int32) (p1 : Int32) (p2 : Int32) : Option (Int32) :=
  (if (f_X7_isStand p1) = 0 then (some (-1)) else (if p2 = 0 then ob1 (aget 986 p (241 + p1)) (fun a3 => (some a3)) else (if p2 = 1 then (ob1 (f_X7_manyAt Z p 0 p1) (fun (b5 : Int32) => (some b5))) else (if p2 = 2 then (ob1 (f_X7_brokenAt Z p 0 p1) (fun (b7 : Int32) => (some b7))) else (if p2 = 3 then (ob1 (f_X7_bestOf Z p p1) (fun (b9 : Int32) => (some (f_X7_told b9)))) else (if p2 = 4 then (ob1 (f_X7_worstOf Z p p1) (fun (b11 : Int32) => (some (f_X7_told b11)))) else (if p2 = 5 then (ob1 (f_X7_meanOf Z p p1) (fun (b13 : Int32) => (some b13))) else (some (-1)))))))))
abbrev rm_X7_stand : Room := { frames := 3, cells := 0, slots := 0, locals := 70 }
set_option maxHeartbeats 4000000 in
set_option maxRecDepth 100000 in
theorem c_X7_stand (l : Launch) (D : va_G) (cI cC cR : ClassId) (h0 h1 h2 h3 h4 : Nat) (p : Nat → Int32) (sv : Nat → Int32) (asd : Nat → Int32) (tx : Nat → Int32) (states : Int32) (len : Int32) (at_ : Int32) (letter : Int32) (one : Int32) (two : Int32) (number : Int32) (p1 : Int32) (p2 : Int32) (Z : Nat) (r : Int32) (hF : f_X7_stand Z p p1 p2 = some r) : MPi l yX7_stand cX7_stand 3 (some .int) rm_X7_stand D (TY cI cC cR) [.ref h0, .int p1, .int p2] (wX7 cI h0 h1 h2 h3 h4 p sv asd tx states len at_ letter one two number) (.int r) := by
  refine me_p pn_X7 (Nat.le_of_ble_eq_true rfl) rfl (fun Γ X hret => ?_)
  unfold f_X7_stand at hF
  refine kw_iload_n X dX7_stand_0 rfl 1 rfl ?_
  refine kw_sp X (r := .int (f_X7_isStand p1)) (As := [.int p1]) (st := []) (c_X7_isStand l D cI cC cR  p1 (f_X7_isStand p1) rfl) vl_X7_45 yv_X7_isStand ⟨Nat.le_of_ble_eq_true rfl, Nat.le_of_ble_eq_true rfl⟩ ⟨rfl, rfl⟩ ⟨Nat.zero_le _, Nat.zero_le _⟩ [] rfl rfl rfl rfl (Nat.le_of_ble_eq_true rfl) dX7_stand_1 ?_
  refine kw_if_ne X 9 dX7_stand_4 (by decide) (fun q1 => ?_) (fun q1 => ?_)
  · replace hF := (if_neg q1).symm.trans hF
    refine kw_iload_n X dX7_stand_9 rfl 2 rfl ?_
    by_cases q2 : p2 = 0
    · replace hF := (if_pos q2).symm.trans hF
      refine kw_tblIn X 48 dX7_stand_10 (by rw [q2]; decide) (by rw [q2]; decide) (by rw [q2]; try rfl) (by decide) ?_
      refine kw_aload_n X dX7_stand_48 rfl 0 rfl ?_
      refine kw_get X inX7 0 rfl rfl 0 (by decide) rfl gw_698 rfl dX7_stand_49 ?_
      refine kw_sipush X dX7_stand_52 cs_241 ?_
      refine kw_iload_n X dX7_stand_55 rfl 1 rfl ?_
      refine kw_iadd X dX7_stand_56 ?_
      obtain ⟨a3, hx, hF⟩ := ob1_ex hF
      obtain ⟨hin, hx⟩ := aget_ex hx
      refine kw_iald X 1 0 rfl rfl hin hx dX7_stand_57 ?_
      obtain rfl := si1 hF
      exact hret _ _ _ (vp_nar_int _) dX7_stand_58
    · replace hF := (if_neg q2).symm.trans hF
      by_cases q4 : p2 = 1
      · replace hF := (if_pos q4).symm.trans hF
        refine kw_tblIn X 59 dX7_stand_10 (by rw [q4]; decide) (by rw [q4]; decide) (by rw [q4]; try rfl) (by decide) ?_
        refine kw_aload_n X dX7_stand_59 rfl 0 rfl ?_
        refine kw_iconst X dX7_stand_60 ci_0 ?_
        refine kw_iload_n X dX7_stand_61 rfl 1 rfl ?_
        obtain ⟨b5, hx5, hF⟩ := ob1_ex hF
        refine kw_ap X (r := .int b5) (As := [.int 0, .int p1]) (st := []) (c_X7_manyAt l D cI cC cR h0 h1 h2 h3 h4 p sv asd tx states len at_ letter one two number 0 p1 Z b5 hx5) vl_X7_37 yv_X7_manyAt ⟨Nat.le_of_ble_eq_true rfl, Nat.le_of_ble_eq_true rfl⟩ ⟨rfl, rfl⟩ ⟨Nat.zero_le _, Nat.zero_le _⟩ 0 rfl rfl rfl rfl (Nat.le_of_ble_eq_true rfl) dX7_stand_62 ?_
        obtain rfl := si1 hF
        exact hret _ _ _ (vp_nar_int _) dX7_stand_65
      · replace hF := (if_neg q4).symm.trans hF
        by_cases q6 : p2 = 2
        · replace hF := (if_pos q6).symm.trans hF
          refine kw_tblIn X 66 dX7_stand_10 (by rw [q6]; decide) (by rw [q6]; decide) (by rw [q6]; try rfl) (by decide) ?_
          refine kw_aload_n X dX7_stand_66 rfl 0 rfl ?_
          refine kw_iconst X dX7_stand_67 ci_0 ?_
          refine kw_iload_n X dX7_stand_68 rfl 1 rfl ?_
          obtain ⟨b7, hx7, hF⟩ := ob1_ex hF
          refine kw_ap X (r := .int b7) (As := [.int 0, .int p1]) (st := []) (c_X7_brokenAt l D cI cC cR h0 h1 h2 h3 h4 p sv asd tx states len at_ letter one two number 0 p1 Z b7 hx7) vl_X7_106 yv_X7_brokenAt ⟨Nat.le_of_ble_eq_true rfl, Nat.le_of_ble_eq_true rfl⟩ ⟨rfl, rfl⟩ ⟨Nat.zero_le _, Nat.zero_le _⟩ 0 rfl rfl rfl rfl (Nat.le_of_ble_eq_true rfl) dX7_stand_69 ?_
          obtain rfl := si1 hF
          exact hret _ _ _ (vp_nar_int _) dX7_stand_72
        · replace hF := (if_neg q6).symm.trans hF
          by_cases q8 : p2 = 3
          · replace hF := (if_pos q8).symm.trans hF
            refine kw_tblIn X 73 dX7_stand_10 (by rw [q8]; decide) (by rw [q8]; decide) (by rw [q8]; try rfl) (by decide) ?_
            refine kw_aload_n X dX7_stand_73 rfl 0 rfl ?_
            refine kw_iload_n X dX7_stand_74 rfl 1 rfl ?_
            obtain ⟨b9, hx9, hF⟩ := ob1_ex hF
            refine kw_ap X (r := .int b9) (As := [.int p1]) (st := []) (c_X7_bestOf l D cI cC cR h0 h1 h2 h3 h4 p sv asd tx states len at_ letter one two number p1 Z b9 hx9) vl_X7_71 yv_X7_bestOf ⟨Nat.le_of_ble_eq_true rfl, Nat.le_of_ble_eq_true rfl⟩ ⟨rfl, rfl⟩ ⟨Nat.zero_le _, Nat.zero_le _⟩ 0 rfl rfl rfl rfl (Nat.le_of_ble_eq_true rfl) dX7_stand_75 ?_
            refine kw_sp X (r := .int (f_X7_told b9)) (As := [.int b9]) (st := []) (c_X7_told l D cI cC cR  b9 (f_X7_told b9) rfl) vl_X7_158 yv_X7_told ⟨Nat.le_of_ble_eq_true rfl, Nat.le_of_ble_eq_true rfl⟩ ⟨rfl, rfl⟩ ⟨Nat.zero_le _, Nat.zero_le _⟩ [] rfl rfl rfl rfl (Nat.le_of_ble_eq_true rfl) dX7_stand_78 ?_
            obtain rfl := si1 hF
            exact hret _ _ _ (vp_nar_int _) dX7_stand_81
          · replace hF := (if_neg q8).symm.trans hF
            by_cases q10 : p2 = 4
            · replace hF := (if_pos q10).symm.trans hF
              refine kw_tblIn X 82 dX7_stand_10 (by rw [q10]; decide) (by rw [q10]; decide) (by rw [q10]; try rfl) (by decide) ?_
              refine kw_aload_n X dX7_stand_82 rfl 0 rfl ?_
              refine kw_iload_n X dX7_stand_83 rfl 1 rfl ?_
              obtain ⟨b11, hx11, hF⟩ := ob1_ex hF
              refine kw_ap X (r := .int b11) (As := [.int p1]) (st := []) (c_X7_worstOf l D cI cC cR h0 h1 h2 h3 h4 p sv asd tx states len at_ letter one two number p1 Z b11 hx11) vl_X7_103 yv_X7_worstOf ⟨Nat.le_of_ble_eq_true rfl, Nat.le_of_ble_eq_true rfl⟩ ⟨rfl, rfl⟩ ⟨Nat.zero_le _, Nat.zero_le _⟩ 0 rfl rfl rfl rfl (Nat.le_of_ble_eq_true rfl) dX7_stand_84 ?_
              refine kw_sp X (r := .int (f_X7_told b11)) (As := [.int b11]) (st := []) (c_X7_told l D cI cC cR  b11 (f_X7_told b11) rfl) vl_X7_158 yv_X7_told ⟨Nat.le_of_ble_eq_true rfl, Nat.le_of_ble_eq_true rfl⟩ ⟨rfl, rfl⟩ ⟨Nat.zero_le _, Nat.zero_le _⟩ [] rfl rfl rfl rfl (Nat.le_of_ble_eq_true rfl) dX7_stand_87 ?_
              obtain rfl := si1 hF
              exact hret _ _ _ (vp_nar_int _) dX7_stand_90
            · replace hF := (if_neg q10).symm.trans hF
              by_cases q12 : p2 = 5
              · replace hF := (if_pos q12).symm.trans hF
                refine kw_tblIn X 91 dX7_stand_10 (by rw [q12]; decide) (by rw [q12]; decide) (by rw [q12]; try rfl) (by decide) ?_
                refine kw_aload_n X dX7_stand_91 rfl 0 rfl ?_
                refine kw_iload_n X dX7_stand_92 rfl 1 rfl ?_
                obtain ⟨b13, hx13, hF⟩ := ob1_ex hF
                refine kw_ap X (r := .int b13) (As := [.int p1]) (st := []) (c_X7_meanOf l D cI cC cR h0 h1 h2 h3 h4 p sv asd tx states len at_ letter one two number p1 Z b13 hx13) vl_X7_161 yv_X7_meanOf ⟨Nat.le_of_ble_eq_true rfl, Nat.le_of_ble_eq_true rfl⟩ ⟨rfl, rfl⟩ ⟨Nat.zero_le _, Nat.zero_le _⟩ 0 rfl rfl rfl rfl (Nat.le_of_ble_eq_true rfl) dX7_stand_93 ?_
                obtain rfl := si1 hF
                exact hret _ _ _ (vp_nar_int _) dX7_stand_96
              · replace hF := (if_neg q12).symm.trans hF
                have n0 := ne_toInt q2 (n := 0) (by decide)
                have n1 := ne_toInt q4 (n := 1) (by decide)
                have n2 := ne_toInt q6 (n := 2) (by decide)
                have n3 := ne_toInt q8 (n := 3) (by decide)
                have n4 := ne_toInt q10 (n := 4) (by decide)
                have n5 := ne_toInt q12 (n := 5) (by decide)
                refine kw_tblOut X 97 dX7_stand_10 (by omega) (by decide) ?_
                refine kw_iconst X dX7_stand_97 ci_m1 ?_
                obtain rfl := si1 hF
                exact hret _ _ _ (vp_nar_int _) dX7_stand_98
  · replace hF := (if_pos q1).symm.trans hF
    refine kw_iconst X dX7_stand_7 ci_m1 ?_
    obtain rfl := si1 hF
    exact hret _ _ _ (vp_nar_int _) dX7_stand_8
-- X7_person
def f_X7_person (p : Nat → Int32) (p1 : Int32) (p2 : Int32) : Option (Int32) :=
  (if (f_X7_isPerson p1) = 0 then (some (-1)) else (if (f_X7_in p2 0 5) = 0 then (some (-1)) else ob1 (aget 986 p ((249 + (12 * p2)) + p1)) (fun a3 => (some (f_X7_told a3)))))
abbrev rm_X7_person : Room := { frames := 2, cells := 0, slots := 0, locals := 42 }
set_option maxHeartbeats 4000000 in
set_option maxRecDepth 100000 in
theorem c_X7_person (l : Launch) (D : va_G) (cI cC cR : ClassId) (h0 h1 h2 h3 h4 : Nat) (p : Nat → Int32) (sv : Nat → Int32) (asd : Nat → Int32) (tx : Nat → Int32) (states : Int32) (len : Int32) (at_ : Int32) (letter : Int32) (one : Int32) (two : Int32) (number : Int32) (p1 : Int32) (p2 : Int32) (r : Int32) (hF : f_X7_person p p1 p2 = some r) : MPi l yX7_person cX7_person 3 (some .int) rm_X7_person D (TY cI cC cR) [.ref h0, .int p1, .int p2] (wX7 cI h0 h1 h2 h3 h4 p sv asd tx states len at_ letter one two number) (.int r) := by
  refine me_p pn_X7 (Nat.le_of_ble_eq_true rfl) rfl (fun Γ X hret => ?_)
  unfold f_X7_person at hF
  refine kw_iload_n X dX7_person_0 rfl 1 rfl ?_
  refine kw_sp X (r := .int (f_X7_isPerson p1)) (As := [.int p1]) (st := []) (c_X7_isPerson l D cI cC cR  p1 (f_X7_isPerson p1) rfl) vl_X7_65 yv_X7_isPerson ⟨Nat.le_of_ble_eq_true rfl, Nat.le_of_ble_eq_true rfl⟩ ⟨rfl, rfl⟩ ⟨Nat.zero_le _, Nat.zero_le _⟩ [] rfl rfl rfl rfl (Nat.le_of_ble_eq_true rfl) dX7_person_1 ?_
  refine kw_if_eq X 16 dX7_person_4 (by decide) (fun q1 => ?_) (fun q1 => ?_)
  · replace hF := (if_pos q1).symm.trans hF
    refine kw_iconst X dX7_person_16 ci_m1 ?_
    obtain rfl := si1 hF
    exact hret _ _ _ (vp_nar_int _) dX7_person_17
  · replace hF := (if_neg q1).symm.trans hF
    refine kw_iload_n X dX7_person_7 rfl 2 rfl ?_
    refine kw_iconst X dX7_person_8 ci_0 ?_
    refine kw_iconst X dX7_person_9 ci_5 ?_
    refine kw_sp X (r := .int (f_X7_in p2 0 5)) (As := [.int p2, .int 0, .int 5]) (st := []) (c_X7_in l D cI cC cR  p2 0 5 (f_X7_in p2 0 5) rfl) vl_X7_22 yv_X7_in ⟨Nat.le_of_ble_eq_true rfl, Nat.le_of_ble_eq_true rfl⟩ ⟨rfl, rfl⟩ ⟨Nat.zero_le _, Nat.zero_le _⟩ [] rfl rfl rfl rfl (Nat.le_of_ble_eq_true rfl) dX7_person_10 ?_
    refine kw_if_ne X 18 dX7_person_13 (by decide) (fun q2 => ?_) (fun q2 => ?_)
    · replace hF := (if_neg q2).symm.trans hF
      refine kw_aload_n X dX7_person_18 rfl 0 rfl ?_
      refine kw_get X inX7 0 rfl rfl 0 (by decide) rfl gw_698 rfl dX7_person_19 ?_
      refine kw_sipush X dX7_person_22 cs_249 ?_
      refine kw_bipush X dX7_person_25 cb_12 ?_
      refine kw_iload_n X dX7_person_27 rfl 2 rfl ?_
      refine kw_imul X dX7_person_28 ?_
      refine kw_iadd X dX7_person_29 ?_
      refine kw_iload_n X dX7_person_30 rfl 1 rfl ?_
      refine kw_iadd X dX7_person_31 ?_
      obtain ⟨a3, hx, hF⟩ := ob1_ex hF
      obtain ⟨hin, hx⟩ := aget_ex hx
      refine kw_iald X 1 0 rfl rfl hin hx dX7_person_32 ?_
      refine kw_sp X (r := .int (f_X7_told a3)) (As := [.int a3]) (st := []) (c_X7_told l D cI cC cR  a3 (f_X7_told a3) rfl) vl_X7_158 yv_X7_told ⟨Nat.le_of_ble_eq_true rfl, Nat.le_of_ble_eq_true rfl⟩ ⟨rfl, rfl⟩ ⟨Nat.zero_le _, Nat.zero_le _⟩ [] rfl rfl rfl rfl (Nat.le_of_ble_eq_true rfl) dX7_person_33 ?_
      obtain rfl := si1 hF
      exact hret _ _ _ (vp_nar_int _) dX7_person_36
    · replace hF := (if_pos q2).symm.trans hF
      refine kw_iconst X dX7_person_16 ci_m1 ?_
      obtain rfl := si1 hF
      exact hret _ _ _ (vp_nar_int _) dX7_person_17
-- X7_inVan
def f_X7_inVan_L20 (p : Nat → Int32) (p1 : Int32) : Nat → Int32 → Int32 → Option (Int32)
  | 0, _, _ => none
  | F + 1, v3_15, v4_16 => ob1 (aget 986 p 0) (fun a17 => (if v4_16 < a17 then (ob1 (f_X7_isAt p v4_16 2 p1) (fun (b19 : Int32) => (if b19 = 0 then (f_X7_inVan_L20 p p1 F v3_15 (v4_16 + 1)) else (if v3_15 = 0 then (some v4_16) else (f_X7_inVan_L20 p p1 F (v3_15 + (-1)) (v4_16 + 1)))))) else (some (-9))))
def f_X7_inVan (Z : Nat) (p : Nat → Int32) (p1 : Int32) (p2 : Int32) : Option (Int32) :=
  (if (f_X7_in p1 0 1) = 0 then (some (-1)) else (if p2 < 0 then (some (-1)) else (f_X7_inVan_L20 p p1 Z p2 0)))
abbrev rm_X7_inVan : Room := { frames := 1, cells := 0, slots := 0, locals := 23 }
set_option maxHeartbeats 4000000 in
set_option maxRecDepth 100000 in
theorem c_X7_inVan (l : Launch) (D : va_G) (cI cC cR : ClassId) (h0 h1 h2 h3 h4 : Nat) (p : Nat → Int32) (sv : Nat → Int32) (asd : Nat → Int32) (tx : Nat → Int32) (states : Int32) (len : Int32) (at_ : Int32) (letter : Int32) (one : Int32) (two : Int32) (number : Int32) (p1 : Int32) (p2 : Int32) (Z : Nat) (r : Int32) (hF : f_X7_inVan Z p p1 p2 = some r) : MPi l yX7_inVan cX7_inVan 5 (some .int) rm_X7_inVan D (TY cI cC cR) [.ref h0, .int p1, .int p2] (wX7 cI h0 h1 h2 h3 h4 p sv asd tx states len at_ letter one two number) (.int r) := by
  refine me_p pn_X7 (Nat.le_of_ble_eq_true rfl) rfl (fun Γ X hret => ?_)
  unfold f_X7_inVan at hF
  refine kw_iload_n X dX7_inVan_0 rfl 1 rfl ?_
  refine kw_iconst X dX7_inVan_1 ci_0 ?_
  refine kw_iconst X dX7_inVan_2 ci_1 ?_
  refine kw_sp X (r := .int (f_X7_in p1 0 1)) (As := [.int p1, .int 0, .int 1]) (st := []) (c_X7_in l D cI cC cR  p1 0 1 (f_X7_in p1 0 1) rfl) vl_X7_22 yv_X7_in ⟨Nat.le_of_ble_eq_true rfl, Nat.le_of_ble_eq_true rfl⟩ ⟨rfl, rfl⟩ ⟨Nat.zero_le _, Nat.zero_le _⟩ [] rfl rfl rfl rfl (Nat.le_of_ble_eq_true rfl) dX7_inVan_3 ?_
  refine kw_if_eq X 13 dX7_inVan_6 (by decide) (fun q1 => ?_) (fun q1 => ?_)
  · replace hF := (if_pos q1).symm.trans hF
    refine kw_iconst X dX7_inVan_13 ci_m1 ?_
    obtain rfl := si1 hF
    exact hret _ _ _ (vp_nar_int _) dX7_inVan_14
  · replace hF := (if_neg q1).symm.trans hF
    refine kw_iload_n X dX7_inVan_9 rfl 2 rfl ?_
    refine kw_if_ge X 15 dX7_inVan_10 (by decide) (fun q2 => ?_) (fun q2 => ?_)
    · replace hF := (if_neg q2).symm.trans hF
      refine kw_iload_n X dX7_inVan_15 rfl 2 rfl ?_
      refine kw_istore_n (lo' := [(0, .ref h0), (1, .int p1), (2, .int p2), (3, .int p2)]) X dX7_inVan_16 rfl (by decide) [1, 2, 3, 0] rfl ?_
      refine kw_iconst X dX7_inVan_17 ci_0 ?_
      refine kw_istore (lo' := [(0, .ref h0), (1, .int p1), (2, .int p2), (3, .int p2), (4, .int 0)]) X dX7_inVan_18 (by decide) [1, 2, 3, 4, 0] rfl ?_
      refine kw_loc (lo' := [(0, .ref h0), (1, .int p1), (3, .int p2), (4, .int 0)]) [0, 1, 3, 4] rfl ?_
      have hL20 : ∀ (F : Nat) (v3_15 : Int32) (v4_16 : Int32), f_X7_inVan_L20 p p1 F v3_15 v4_16 = some r → KW Γ 0 0 (wX7 cI h0 h1 h2 h3 h4 p sv asd tx states len at_ letter one two number) [(0, .ref h0), (1, .int p1), (3, .int v3_15), (4, .int v4_16)] 20 [] := by
        intro F
        induction F with
        | zero => intro v3_15 v4_16 hF; exact none_some hF
        | succ F ih20 =>
          intro v3_15 v4_16 hF
          rw [f_X7_inVan_L20] at hF
          refine kw_iload X dX7_inVan_20 3 rfl ?_
          refine kw_aload_n X dX7_inVan_22 rfl 0 rfl ?_
          refine kw_get X inX7 0 rfl rfl 0 (by decide) rfl gw_698 rfl dX7_inVan_23 ?_
          refine kw_iconst X dX7_inVan_26 ci_0 ?_
          obtain ⟨a17, hx, hF⟩ := ob1_ex hF
          obtain ⟨hin, hx⟩ := aget_ex hx
          refine kw_iald X 1 0 rfl rfl hin hx dX7_inVan_27 ?_
          refine kw_icmp_ge X 58 dX7_inVan_28 (by decide) (fun q18 => ?_) (fun q18 => ?_)
          · replace hF := (if_neg q18).symm.trans hF
            refine kw_bipush X dX7_inVan_58 cb_m9 ?_
            obtain rfl := si1 hF
            exact hret _ _ _ (vp_nar_int _) dX7_inVan_60
          · replace hF := (if_pos q18).symm.trans hF
            refine kw_aload_n X dX7_inVan_31 rfl 0 rfl ?_
            refine kw_iload X dX7_inVan_32 3 rfl ?_
            refine kw_iconst X dX7_inVan_34 ci_2 ?_
            refine kw_iload_n X dX7_inVan_35 rfl 1 rfl ?_
            obtain ⟨b19, hx19, hF⟩ := ob1_ex hF
            refine kw_ap X (r := .int b19) (As := [.int v4_16, .int 2, .int p1]) (st := []) (c_X7_isAt l D cI cC cR h0 h1 h2 h3 h4 p sv asd tx states len at_ letter one two number v4_16 2 p1 b19 hx19) vl_X7_30 yv_X7_isAt ⟨Nat.le_of_ble_eq_true rfl, Nat.le_of_ble_eq_true rfl⟩ ⟨rfl, rfl⟩ ⟨Nat.zero_le _, Nat.zero_le _⟩ 0 rfl rfl rfl rfl (Nat.le_of_ble_eq_true rfl) dX7_inVan_36 ?_
            refine kw_if_eq X 52 dX7_inVan_39 (by decide) (fun q20 => ?_) (fun q20 => ?_)
            · replace hF := (if_pos q20).symm.trans hF
              refine kw_iinc (lo' := [(0, .ref h0), (1, .int p1), (3, .int v3_15), (4, .int (v4_16 + 1))]) X dX7_inVan_52 3 rfl (congrArg (fun w => v4_16 + w) ci_1) (by decide) [1, 2, 3, 0] rfl ?_
              refine kw_goto X 20 dX7_inVan_55 (by decide) ?_
              exact ih20 _ _ hF
            · replace hF := (if_neg q20).symm.trans hF
              refine kw_iload_n X dX7_inVan_42 rfl 2 rfl ?_
              refine kw_if_ne X 49 dX7_inVan_43 (by decide) (fun q21 => ?_) (fun q21 => ?_)
              · replace hF := (if_neg q21).symm.trans hF
                refine kw_iinc (lo' := [(0, .ref h0), (1, .int p1), (3, .int (v3_15 + (-1))), (4, .int v4_16)]) X dX7_inVan_49 2 rfl (congrArg (fun w => v3_15 + w) ci_m1) (by decide) [1, 2, 0, 3] rfl ?_
                refine kw_iinc (lo' := [(0, .ref h0), (1, .int p1), (3, .int (v3_15 + (-1))), (4, .int (v4_16 + 1))]) X dX7_inVan_52 3 rfl (congrArg (fun w => v4_16 + w) ci_1) (by decide) [1, 2, 3, 0] rfl ?_
                refine kw_goto X 20 dX7_inVan_55 (by decide) ?_
                exact ih20 _ _ hF
              · replace hF := (if_pos q21).symm.trans hF
                refine kw_iload X dX7_inVan_46 3 rfl ?_
                obtain rfl := si1 hF
                exact hret _ _ _ (vp_nar_int _) dX7_inVan_48
      exact hL20 Z _ _ hF
    · replace hF := (if_pos q2).symm.trans hF
      refine kw_iconst X dX7_inVan_13 ci_m1 ?_
      obtain rfl := si1 hF
      exact hret _ _ _ (vp_nar_int _) dX7_inVan_14
-- X7_feeIn
def f_X7_feeIn_L78 (p2 : Int32) (p3 : Int32) : Nat → Int32 → Int32 → Option (Int32)
  | 0, _, _ => none
  | F + 1, v5_32, v7_33 => (if v7_33 < p2 then (f_X7_feeIn_L78 p2 p3 F (f_X7_worn v5_32 p3 0) (v7_33 + 1)) else (some (v5_32)))
def f_X7_feeIn (Z : Nat) (p : Nat → Int32) (p1 : Int32) (p2 : Int32) (p3 : Int32) : Option (Int32) :=
  (if (f_X7_isPerson p1) = 0 then (some (-1)) else (if (f_X7_in p2 0 50) = 0 then (some (-1)) else (if (f_X7_in p3 0 9) = 0 then (some (-1)) else ob1 (aget 986 p (261 + p1)) (fun a4 => (if a4 < 0 then (some (-2)) else ob1 (aget 986 p (121 + a4)) (fun a6 => (pl1 (if a6 < 32 then 0 else 1) (fun (x8 : Int32) => (ob1 (f_X7_feeIn_L78 p2 p3 Z a6 0) (fun (e14 : Int32) => (pl1 (if x8 = 0 then (if e14 < 32 then 0 else 1) else 0) (fun (x17 : Int32) => ob1 (aget 986 p (273 + p1)) (fun a19 => (pl1 (if p3 < 2 then 0 else p2) (fun (x21 : Int32) => (ob1 (if x17 = 0 then ob1 (aget 986 p (285 + p1)) (fun a29 => (if a29 = 1 then (some 1) else (some 0))) else (some 1)) (fun (x26 : Int32) => (ob1 (f_X7_fee p (a19 + x21) x26) (fun (b28 : Int32) => (some b28))))))))))))))))))))
abbrev rm_X7_feeIn : Room := { frames := 2, cells := 0, slots := 0, locals := 42 }
set_option maxHeartbeats 4000000 in
set_option maxRecDepth 100000 in
theorem c_X7_feeIn (l : Launch) (D : va_G) (cI cC cR : ClassId) (h0 h1 h2 h3 h4 : Nat) (p : Nat → Int32) (sv : Nat → Int32) (asd : Nat → Int32) (tx : Nat → Int32) (states : Int32) (len : Int32) (at_ : Int32) (letter : Int32) (one : Int32) (two : Int32) (number : Int32) (p1 : Int32) (p2 : Int32) (p3 : Int32) (Z : Nat) (r : Int32) (hF : f_X7_feeIn Z p p1 p2 p3 = some r) : MPi l yX7_feeIn cX7_feeIn 8 (some .int) rm_X7_feeIn D (TY cI cC cR) [.ref h0, .int p1, .int p2, .int p3] (wX7 cI h0 h1 h2 h3 h4 p sv asd tx states len at_ letter one two number) (.int r) := by
  refine me_p pn_X7 (Nat.le_of_ble_eq_true rfl) rfl (fun Γ X hret => ?_)
  unfold f_X7_feeIn at hF
  refine kw_iload_n X dX7_feeIn_0 rfl 1 rfl ?_
  refine kw_sp X (r := .int (f_X7_isPerson p1)) (As := [.int p1]) (st := []) (c_X7_isPerson l D cI cC cR  p1 (f_X7_isPerson p1) rfl) vl_X7_65 yv_X7_isPerson ⟨Nat.le_of_ble_eq_true rfl, Nat.le_of_ble_eq_true rfl⟩ ⟨rfl, rfl⟩ ⟨Nat.zero_le _, Nat.zero_le _⟩ [] rfl rfl rfl rfl (Nat.le_of_ble_eq_true rfl) dX7_feeIn_1 ?_
  refine kw_if_eq X 27 dX7_feeIn_4 (by decide) (fun q1 => ?_) (fun q1 => ?_)
  · replace hF := (if_pos q1).symm.trans hF
    refine kw_iconst X dX7_feeIn_27 ci_m1 ?_
    obtain rfl := si1 hF
    exact hret _ _ _ (vp_nar_int _) dX7_feeIn_28
  · replace hF := (if_neg q1).symm.trans hF
    refine kw_iload_n X dX7_feeIn_7 rfl 2 rfl ?_
    refine kw_iconst X dX7_feeIn_8 ci_0 ?_
    refine kw_bipush X dX7_feeIn_9 cb_50 ?_
    refine kw_sp X (r := .int (f_X7_in p2 0 50)) (As := [.int p2, .int 0, .int 50]) (st := []) (c_X7_in l D cI cC cR  p2 0 50 (f_X7_in p2 0 50) rfl) vl_X7_22 yv_X7_in ⟨Nat.le_of_ble_eq_true rfl, Nat.le_of_ble_eq_true rfl⟩ ⟨rfl, rfl⟩ ⟨Nat.zero_le _, Nat.zero_le _⟩ [] rfl rfl rfl rfl (Nat.le_of_ble_eq_true rfl) dX7_feeIn_11 ?_
    refine kw_if_eq X 27 dX7_feeIn_14 (by decide) (fun q2 => ?_) (fun q2 => ?_)
    · replace hF := (if_pos q2).symm.trans hF
      refine kw_iconst X dX7_feeIn_27 ci_m1 ?_
      obtain rfl := si1 hF
      exact hret _ _ _ (vp_nar_int _) dX7_feeIn_28
    · replace hF := (if_neg q2).symm.trans hF
      refine kw_iload_n X dX7_feeIn_17 rfl 3 rfl ?_
      refine kw_iconst X dX7_feeIn_18 ci_0 ?_
      refine kw_bipush X dX7_feeIn_19 cb_9 ?_
      refine kw_sp X (r := .int (f_X7_in p3 0 9)) (As := [.int p3, .int 0, .int 9]) (st := []) (c_X7_in l D cI cC cR  p3 0 9 (f_X7_in p3 0 9) rfl) vl_X7_22 yv_X7_in ⟨Nat.le_of_ble_eq_true rfl, Nat.le_of_ble_eq_true rfl⟩ ⟨rfl, rfl⟩ ⟨Nat.zero_le _, Nat.zero_le _⟩ [] rfl rfl rfl rfl (Nat.le_of_ble_eq_true rfl) dX7_feeIn_21 ?_
      refine kw_if_ne X 29 dX7_feeIn_24 (by decide) (fun q3 => ?_) (fun q3 => ?_)
      · replace hF := (if_neg q3).symm.trans hF
        refine kw_aload_n X dX7_feeIn_29 rfl 0 rfl ?_
        refine kw_get X inX7 0 rfl rfl 0 (by decide) rfl gw_698 rfl dX7_feeIn_30 ?_
        refine kw_sipush X dX7_feeIn_33 cs_261 ?_
        refine kw_iload_n X dX7_feeIn_36 rfl 1 rfl ?_
        refine kw_iadd X dX7_feeIn_37 ?_
        obtain ⟨a4, hx, hF⟩ := ob1_ex hF
        obtain ⟨hin, hx⟩ := aget_ex hx
        refine kw_iald X 1 0 rfl rfl hin hx dX7_feeIn_38 ?_
        refine kw_istore (lo' := [(0, .ref h0), (1, .int p1), (2, .int p2), (3, .int p3), (4, .int a4)]) X dX7_feeIn_39 (by decide) [1, 2, 3, 4, 0] rfl ?_
        refine kw_iload X dX7_feeIn_41 4 rfl ?_
        refine kw_if_ge X 49 dX7_feeIn_43 (by decide) (fun q5 => ?_) (fun q5 => ?_)
        · replace hF := (if_neg q5).symm.trans hF
          refine kw_aload_n X dX7_feeIn_49 rfl 0 rfl ?_
          refine kw_get X inX7 0 rfl rfl 0 (by decide) rfl gw_698 rfl dX7_feeIn_50 ?_
          refine kw_bipush X dX7_feeIn_53 cb_121 ?_
          refine kw_iload X dX7_feeIn_55 4 rfl ?_
          refine kw_iadd X dX7_feeIn_57 ?_
          obtain ⟨a6, hx, hF⟩ := ob1_ex hF
          obtain ⟨hin, hx⟩ := aget_ex hx
          refine kw_iald X 1 0 rfl rfl hin hx dX7_feeIn_58 ?_
          refine kw_istore (lo' := [(0, .ref h0), (1, .int p1), (2, .int p2), (3, .int p3), (4, .int a4), (5, .int a6)]) X dX7_feeIn_59 (by decide) [1, 2, 3, 4, 5, 0] rfl ?_
          refine kw_iload X dX7_feeIn_61 5 rfl ?_
          refine kw_bipush X dX7_feeIn_63 cb_32 ?_
          obtain ⟨x8, hx9, hF⟩ := pl1_ex hF
          have J : KW Γ 0 0 (wX7 cI h0 h1 h2 h3 h4 p sv asd tx states len at_ letter one two number) [(0, .ref h0), (1, .int p1), (2, .int p2), (3, .int p3), (5, .int a6)] 73 [.int x8] := by
            refine kw_istore (lo' := [(0, .ref h0), (1, .int p1), (2, .int p2), (3, .int p3), (5, .int a6), (6, .int x8)]) X dX7_feeIn_73 (by decide) [1, 2, 3, 4, 5, 0] rfl ?_
            refine kw_iconst X dX7_feeIn_75 ci_0 ?_
            refine kw_istore (lo' := [(0, .ref h0), (1, .int p1), (2, .int p2), (3, .int p3), (5, .int a6), (6, .int x8), (7, .int 0)]) X dX7_feeIn_76 (by decide) [1, 2, 3, 4, 5, 6, 0] rfl ?_
            obtain ⟨e14, hx, hF⟩ := ob1_ex hF
            have J : KW Γ 0 0 (wX7 cI h0 h1 h2 h3 h4 p sv asd tx states len at_ letter one two number) [(0, .ref h0), (1, .int p1), (2, .int p2), (3, .int p3), (5, .int e14), (6, .int x8)] 99 [] := by
              refine kw_iload X dX7_feeIn_99 5 rfl ?_
              obtain ⟨x17, hx18, hF⟩ := pl1_ex hF
              have J : KW Γ 0 0 (wX7 cI h0 h1 h2 h3 h4 p sv asd tx states len at_ letter one two number) [(0, .ref h0), (1, .int p1), (2, .int p2), (3, .int p3)] 116 [.int x17] := by
                refine kw_istore (lo' := [(0, .ref h0), (1, .int p1), (2, .int p2), (3, .int p3), (7, .int x17)]) X dX7_feeIn_116 (by decide) [1, 2, 3, 4, 0] rfl ?_
                refine kw_aload_n X dX7_feeIn_118 rfl 0 rfl ?_
                refine kw_aload_n X dX7_feeIn_119 rfl 0 rfl ?_
                refine kw_get X inX7 0 rfl rfl 0 (by decide) rfl gw_698 rfl dX7_feeIn_120 ?_
                refine kw_sipush X dX7_feeIn_123 cs_273 ?_
                refine kw_iload_n X dX7_feeIn_126 rfl 1 rfl ?_
                refine kw_iadd X dX7_feeIn_127 ?_
                obtain ⟨a19, hx, hF⟩ := ob1_ex hF
                obtain ⟨hin, hx⟩ := aget_ex hx
                refine kw_iald X 1 0 rfl rfl hin hx dX7_feeIn_128 ?_
                refine kw_iload_n X dX7_feeIn_129 rfl 3 rfl ?_
                refine kw_iconst X dX7_feeIn_130 ci_2 ?_
                obtain ⟨x21, hx22, hF⟩ := pl1_ex hF
                have J : KW Γ 0 0 (wX7 cI h0 h1 h2 h3 h4 p sv asd tx states len at_ letter one two number) [(0, .ref h0), (1, .int p1), (7, .int x17)] 139 [.int x21, .int a19, .ref h0] := by
                  refine kw_iadd X dX7_feeIn_139 ?_
                  refine kw_iload X dX7_feeIn_140 2 rfl ?_
                  obtain ⟨x26, hx27, hF⟩ := ob1_ex hF
                  have J : KW Γ 0 0 (wX7 cI h0 h1 h2 h3 h4 p sv asd tx states len at_ letter one two number) [] 164 [.int x26, .int (a19 + x21), .ref h0] := by
                    obtain ⟨b28, hx28, hF⟩ := ob1_ex hF
                    refine kw_ap X (r := .int b28) (As := [.int (a19 + x21), .int x26]) (st := []) (c_X7_fee l D cI cC cR h0 h1 h2 h3 h4 p sv asd tx states len at_ letter one two number (a19 + x21) x26 b28 hx28) vl_X7_80 yv_X7_fee ⟨Nat.le_of_ble_eq_true rfl, Nat.le_of_ble_eq_true rfl⟩ ⟨rfl, rfl⟩ ⟨Nat.zero_le _, Nat.zero_le _⟩ 0 rfl rfl rfl rfl (Nat.le_of_ble_eq_true rfl) dX7_feeIn_164 ?_
                    obtain rfl := si1 hF
                    exact hret _ _ _ (vp_nar_int _) dX7_feeIn_167
                  replace hF := hx27
                  refine kw_if_ne X 159 dX7_feeIn_142 (by decide) (fun q23 => ?_) (fun q23 => ?_)
                  · replace hF := (if_neg q23).symm.trans hF
                    refine kw_iconst X dX7_feeIn_159 ci_1 ?_
                    refine kw_goto X 164 dX7_feeIn_160 (by decide) ?_
                    refine kw_loc (lo' := []) [] rfl ?_
                    obtain rfl := si1 hF
                    exact J
                  · replace hF := (if_pos q23).symm.trans hF
                    refine kw_aload_n X dX7_feeIn_145 rfl 0 rfl ?_
                    refine kw_get X inX7 0 rfl rfl 0 (by decide) rfl gw_698 rfl dX7_feeIn_146 ?_
                    refine kw_sipush X dX7_feeIn_149 cs_285 ?_
                    refine kw_iload_n X dX7_feeIn_152 rfl 1 rfl ?_
                    refine kw_iadd X dX7_feeIn_153 ?_
                    obtain ⟨a29, hx, hF⟩ := ob1_ex hF
                    obtain ⟨hin, hx⟩ := aget_ex hx
                    refine kw_iald X 1 0 rfl rfl hin hx dX7_feeIn_154 ?_
                    refine kw_iconst X dX7_feeIn_155 ci_1 ?_
                    refine kw_icmp_ne X 163 dX7_feeIn_156 (by decide) (fun q30 => ?_) (fun q30 => ?_)
                    · replace hF := (if_neg q30).symm.trans hF
                      refine kw_iconst X dX7_feeIn_163 ci_0 ?_
                      refine kw_loc (lo' := []) [] rfl ?_
                      obtain rfl := si1 hF
                      exact J
                    · replace hF := (if_pos q30).symm.trans hF
                      refine kw_iconst X dX7_feeIn_159 ci_1 ?_
                      refine kw_goto X 164 dX7_feeIn_160 (by decide) ?_
                      refine kw_loc (lo' := []) [] rfl ?_
                      obtain rfl := si1 hF
                      exact J
                replace hF := hx22
                refine kw_icmp_lt X 138 dX7_feeIn_131 (by decide) (fun q20 => ?_) (fun q20 => ?_)
                · replace hF := (if_pos q20).symm.trans hF
                  refine kw_iconst X dX7_feeIn_138 ci_0 ?_
                  refine kw_loc (lo' := [(0, .ref h0), (1, .int p1), (7, .int x17)]) [0, 1, 4] rfl ?_
                  obtain rfl := ti1 hF
                  exact J
                · replace hF := (if_neg q20).symm.trans hF
                  refine kw_iload_n X dX7_feeIn_134 rfl 2 rfl ?_
                  refine kw_goto X 139 dX7_feeIn_135 (by decide) ?_
                  refine kw_loc (lo' := [(0, .ref h0), (1, .int p1), (7, .int x17)]) [0, 1, 4] rfl ?_
                  obtain rfl := ti1 hF
                  exact J
              replace hF := hx18
              refine kw_if_ne X 115 dX7_feeIn_101 (by decide) (fun q15 => ?_) (fun q15 => ?_)
              · replace hF := (if_neg q15).symm.trans hF
                refine kw_iconst X dX7_feeIn_115 ci_0 ?_
                refine kw_loc (lo' := [(0, .ref h0), (1, .int p1), (2, .int p2), (3, .int p3)]) [0, 1, 2, 3] rfl ?_
                obtain rfl := ti1 hF
                exact J
              · replace hF := (if_pos q15).symm.trans hF
                refine kw_iload X dX7_feeIn_104 4 rfl ?_
                refine kw_bipush X dX7_feeIn_106 cb_32 ?_
                refine kw_icmp_lt X 115 dX7_feeIn_108 (by decide) (fun q31 => ?_) (fun q31 => ?_)
                · replace hF := (if_pos q31).symm.trans hF
                  refine kw_iconst X dX7_feeIn_115 ci_0 ?_
                  refine kw_loc (lo' := [(0, .ref h0), (1, .int p1), (2, .int p2), (3, .int p3)]) [0, 1, 2, 3] rfl ?_
                  obtain rfl := ti1 hF
                  exact J
                · replace hF := (if_neg q31).symm.trans hF
                  refine kw_iconst X dX7_feeIn_111 ci_1 ?_
                  refine kw_goto X 116 dX7_feeIn_112 (by decide) ?_
                  refine kw_loc (lo' := [(0, .ref h0), (1, .int p1), (2, .int p2), (3, .int p3)]) [0, 1, 2, 3] rfl ?_
                  obtain rfl := ti1 hF
                  exact J
            have hL78 : ∀ (F : Nat) (v5_32 : Int32) (v7_33 : Int32), f_X7_feeIn_L78 p2 p3 F v5_32 v7_33 = some (e14) → KW Γ 0 0 (wX7 cI h0 h1 h2 h3 h4 p sv asd tx states len at_ letter one two number) [(0, .ref h0), (1, .int p1), (2, .int p2), (3, .int p3), (5, .int v5_32), (6, .int x8), (7, .int v7_33)] 78 [] := by
              intro F
              induction F with
              | zero => intro v5_32 v7_33 hF; exact none_some hF
              | succ F ih78 =>
                intro v5_32 v7_33 hF
                rw [f_X7_feeIn_L78] at hF
                refine kw_iload X dX7_feeIn_78 6 rfl ?_
                refine kw_iload_n X dX7_feeIn_80 rfl 2 rfl ?_
                refine kw_icmp_ge X 99 dX7_feeIn_81 (by decide) (fun q34 => ?_) (fun q34 => ?_)
                · replace hF := (if_neg q34).symm.trans hF
                  refine kw_loc (lo' := [(0, .ref h0), (1, .int p1), (2, .int p2), (3, .int p3), (5, .int v5_32), (6, .int x8)]) [0, 1, 2, 3, 4, 5] rfl ?_
                  obtain rfl := si1 hF
                  exact J
                · replace hF := (if_pos q34).symm.trans hF
                  refine kw_iload X dX7_feeIn_84 4 rfl ?_
                  refine kw_iload_n X dX7_feeIn_86 rfl 3 rfl ?_
                  refine kw_iconst X dX7_feeIn_87 ci_0 ?_
                  refine kw_sp X (r := .int (f_X7_worn v5_32 p3 0)) (As := [.int v5_32, .int p3, .int 0]) (st := []) (c_X7_worn l D cI cC cR  v5_32 p3 0 (f_X7_worn v5_32 p3 0) rfl) vl_X7_90 yv_X7_worn ⟨Nat.le_of_ble_eq_true rfl, Nat.le_of_ble_eq_true rfl⟩ ⟨rfl, rfl⟩ ⟨Nat.zero_le _, Nat.zero_le _⟩ [] rfl rfl rfl rfl (Nat.le_of_ble_eq_true rfl) dX7_feeIn_88 ?_
                  refine kw_istore (lo' := [(0, .ref h0), (1, .int p1), (2, .int p2), (3, .int p3), (5, .int (f_X7_worn v5_32 p3 0)), (6, .int x8), (7, .int v7_33)]) X dX7_feeIn_91 (by decide) [1, 2, 3, 4, 0, 5, 6] rfl ?_
                  refine kw_iinc (lo' := [(0, .ref h0), (1, .int p1), (2, .int p2), (3, .int p3), (5, .int (f_X7_worn v5_32 p3 0)), (6, .int x8), (7, .int (v7_33 + 1))]) X dX7_feeIn_93 6 rfl (congrArg (fun w => v7_33 + w) ci_1) (by decide) [1, 2, 3, 4, 5, 6, 0] rfl ?_
                  refine kw_goto X 78 dX7_feeIn_96 (by decide) ?_
                  exact ih78 _ _ hF
            exact hL78 Z _ _ hx
          replace hF := hx9
          refine kw_icmp_lt X 72 dX7_feeIn_65 (by decide) (fun q7 => ?_) (fun q7 => ?_)
          · replace hF := (if_pos q7).symm.trans hF
            refine kw_iconst X dX7_feeIn_72 ci_0 ?_
            refine kw_loc (lo' := [(0, .ref h0), (1, .int p1), (2, .int p2), (3, .int p3), (5, .int a6)]) [0, 1, 2, 3, 5] rfl ?_
            obtain rfl := ti1 hF
            exact J
          · replace hF := (if_neg q7).symm.trans hF
            refine kw_iconst X dX7_feeIn_68 ci_1 ?_
            refine kw_goto X 73 dX7_feeIn_69 (by decide) ?_
            refine kw_loc (lo' := [(0, .ref h0), (1, .int p1), (2, .int p2), (3, .int p3), (5, .int a6)]) [0, 1, 2, 3, 5] rfl ?_
            obtain rfl := ti1 hF
            exact J
        · replace hF := (if_pos q5).symm.trans hF
          refine kw_bipush X dX7_feeIn_46 cb_m2 ?_
          obtain rfl := si1 hF
          exact hret _ _ _ (vp_nar_int _) dX7_feeIn_48
      · replace hF := (if_pos q3).symm.trans hF
        refine kw_iconst X dX7_feeIn_27 ci_m1 ?_
        obtain rfl := si1 hF
        exact hret _ _ _ (vp_nar_int _) dX7_feeIn_28
-- X7_breaksIn
def f_X7_breaksIn_L63 (p2 : Int32) (p3 : Int32) : Nat → Int32 → Int32 → Option (Int32 × Int32)
  | 0, _, _ => none
  | F + 1, v5_16, v6_17 => (if v6_17 < 100 then (if v5_16 < 32 then (f_X7_breaksIn_L63 p2 p3 F (f_X7_worn v5_16 p2 p3) (v6_17 + 1)) else (some (v5_16, v6_17))) else (some (v5_16, v6_17)))
def f_X7_breaksIn (Z : Nat) (p : Nat → Int32) (p1 : Int32) (p2 : Int32) (p3 : Int32) : Option (Int32) :=
  (if (f_X7_isPerson p1) = 0 then (some (-1)) else (if (f_X7_in p2 0 9) = 0 then (some (-1)) else (if (f_X7_in p3 0 3) = 0 then (some (-1)) else ob1 (aget 986 p (261 + p1)) (fun a4 => (if a4 < 0 then (some (-2)) else ob1 (aget 986 p (121 + a4)) (fun a6 => (ob2 (f_X7_breaksIn_L63 p2 p3 Z a6 0) (fun (e13 : Int32) (e14 : Int32) => (if e13 < 32 then (some (-9)) else (some e14))))))))))
abbrev rm_X7_breaksIn : Room := { frames := 2, cells := 0, slots := 0, locals := 42 }
set_option maxHeartbeats 4000000 in
set_option maxRecDepth 100000 in
theorem c_X7_breaksIn (l : Launch) (D : va_G) (cI cC cR : ClassId) (h0 h1 h2 h3 h4 : Nat) (p : Nat → Int32) (sv : Nat → Int32) (asd : Nat → Int32) (tx : Nat → Int32) (states : Int32) (len : Int32) (at_ : Int32) (letter : Int32) (one : Int32) (two : Int32) (number : Int32) (p1 : Int32) (p2 : Int32) (p3 : Int32) (Z : Nat) (r : Int32) (hF : f_X7_breaksIn Z p p1 p2 p3 = some r) : MPi l yX7_breaksIn cX7_breaksIn 7 (some .int) rm_X7_breaksIn D (TY cI cC cR) [.ref h0, .int p1, .int p2, .int p3] (wX7 cI h0 h1 h2 h3 h4 p sv asd tx states len at_ letter one two number) (.int r) := by
  refine me_p pn_X7 (Nat.le_of_ble_eq_true rfl) rfl (fun Γ X hret => ?_)
  unfold f_X7_breaksIn at hF
  refine kw_iload_n X dX7_breaksIn_0 rfl 1 rfl ?_
  refine kw_sp X (r := .int (f_X7_isPerson p1)) (As := [.int p1]) (st := []) (c_X7_isPerson l D cI cC cR  p1 (f_X7_isPerson p1) rfl) vl_X7_65 yv_X7_isPerson ⟨Nat.le_of_ble_eq_true rfl, Nat.le_of_ble_eq_true rfl⟩ ⟨rfl, rfl⟩ ⟨Nat.zero_le _, Nat.zero_le _⟩ [] rfl rfl rfl rfl (Nat.le_of_ble_eq_true rfl) dX7_breaksIn_1 ?_
  refine kw_if_eq X 26 dX7_breaksIn_4 (by decide) (fun q1 => ?_) (fun q1 => ?_)
  · replace hF := (if_pos q1).symm.trans hF
    refine kw_iconst X dX7_breaksIn_26 ci_m1 ?_
    obtain rfl := si1 hF
    exact hret _ _ _ (vp_nar_int _) dX7_breaksIn_27
  · replace hF := (if_neg q1).symm.trans hF
    refine kw_iload_n X dX7_breaksIn_7 rfl 2 rfl ?_
    refine kw_iconst X dX7_breaksIn_8 ci_0 ?_
    refine kw_bipush X dX7_breaksIn_9 cb_9 ?_
    refine kw_sp X (r := .int (f_X7_in p2 0 9)) (As := [.int p2, .int 0, .int 9]) (st := []) (c_X7_in l D cI cC cR  p2 0 9 (f_X7_in p2 0 9) rfl) vl_X7_22 yv_X7_in ⟨Nat.le_of_ble_eq_true rfl, Nat.le_of_ble_eq_true rfl⟩ ⟨rfl, rfl⟩ ⟨Nat.zero_le _, Nat.zero_le _⟩ [] rfl rfl rfl rfl (Nat.le_of_ble_eq_true rfl) dX7_breaksIn_11 ?_
    refine kw_if_eq X 26 dX7_breaksIn_14 (by decide) (fun q2 => ?_) (fun q2 => ?_)
    · replace hF := (if_pos q2).symm.trans hF
      refine kw_iconst X dX7_breaksIn_26 ci_m1 ?_
      obtain rfl := si1 hF
      exact hret _ _ _ (vp_nar_int _) dX7_breaksIn_27
    · replace hF := (if_neg q2).symm.trans hF
      refine kw_iload_n X dX7_breaksIn_17 rfl 3 rfl ?_
      refine kw_iconst X dX7_breaksIn_18 ci_0 ?_
      refine kw_iconst X dX7_breaksIn_19 ci_3 ?_
      refine kw_sp X (r := .int (f_X7_in p3 0 3)) (As := [.int p3, .int 0, .int 3]) (st := []) (c_X7_in l D cI cC cR  p3 0 3 (f_X7_in p3 0 3) rfl) vl_X7_22 yv_X7_in ⟨Nat.le_of_ble_eq_true rfl, Nat.le_of_ble_eq_true rfl⟩ ⟨rfl, rfl⟩ ⟨Nat.zero_le _, Nat.zero_le _⟩ [] rfl rfl rfl rfl (Nat.le_of_ble_eq_true rfl) dX7_breaksIn_20 ?_
      refine kw_if_ne X 28 dX7_breaksIn_23 (by decide) (fun q3 => ?_) (fun q3 => ?_)
      · replace hF := (if_neg q3).symm.trans hF
        refine kw_aload_n X dX7_breaksIn_28 rfl 0 rfl ?_
        refine kw_get X inX7 0 rfl rfl 0 (by decide) rfl gw_698 rfl dX7_breaksIn_29 ?_
        refine kw_sipush X dX7_breaksIn_32 cs_261 ?_
        refine kw_iload_n X dX7_breaksIn_35 rfl 1 rfl ?_
        refine kw_iadd X dX7_breaksIn_36 ?_
        obtain ⟨a4, hx, hF⟩ := ob1_ex hF
        obtain ⟨hin, hx⟩ := aget_ex hx
        refine kw_iald X 1 0 rfl rfl hin hx dX7_breaksIn_37 ?_
        refine kw_istore (lo' := [(0, .ref h0), (1, .int p1), (2, .int p2), (3, .int p3), (4, .int a4)]) X dX7_breaksIn_38 (by decide) [1, 2, 3, 4, 0] rfl ?_
        refine kw_iload X dX7_breaksIn_40 4 rfl ?_
        refine kw_if_ge X 48 dX7_breaksIn_42 (by decide) (fun q5 => ?_) (fun q5 => ?_)
        · replace hF := (if_neg q5).symm.trans hF
          refine kw_aload_n X dX7_breaksIn_48 rfl 0 rfl ?_
          refine kw_get X inX7 0 rfl rfl 0 (by decide) rfl gw_698 rfl dX7_breaksIn_49 ?_
          refine kw_bipush X dX7_breaksIn_52 cb_121 ?_
          refine kw_iload X dX7_breaksIn_54 4 rfl ?_
          refine kw_iadd X dX7_breaksIn_56 ?_
          obtain ⟨a6, hx, hF⟩ := ob1_ex hF
          obtain ⟨hin, hx⟩ := aget_ex hx
          refine kw_iald X 1 0 rfl rfl hin hx dX7_breaksIn_57 ?_
          refine kw_istore (lo' := [(0, .ref h0), (1, .int p1), (2, .int p2), (3, .int p3), (4, .int a4), (5, .int a6)]) X dX7_breaksIn_58 (by decide) [1, 2, 3, 4, 5, 0] rfl ?_
          refine kw_iconst X dX7_breaksIn_60 ci_0 ?_
          refine kw_istore (lo' := [(0, .ref h0), (1, .int p1), (2, .int p2), (3, .int p3), (4, .int a4), (5, .int a6), (6, .int 0)]) X dX7_breaksIn_61 (by decide) [1, 2, 3, 4, 5, 6, 0] rfl ?_
          refine kw_loc (lo' := [(2, .int p2), (3, .int p3), (5, .int a6), (6, .int 0)]) [2, 3, 5, 6] rfl ?_
          obtain ⟨e13, e14, hx, hF⟩ := ob2_ex hF
          have J : KW Γ 0 0 (wX7 cI h0 h1 h2 h3 h4 p sv asd tx states len at_ letter one two number) [(5, .int e13), (6, .int e14)] 92 [] := by
            refine kw_iload X dX7_breaksIn_92 0 rfl ?_
            refine kw_bipush X dX7_breaksIn_94 cb_32 ?_
            refine kw_icmp_ge X 104 dX7_breaksIn_96 (by decide) (fun q15 => ?_) (fun q15 => ?_)
            · replace hF := (if_neg q15).symm.trans hF
              refine kw_iload X dX7_breaksIn_104 1 rfl ?_
              obtain rfl := si1 hF
              exact hret _ _ _ (vp_nar_int _) dX7_breaksIn_106
            · replace hF := (if_pos q15).symm.trans hF
              refine kw_bipush X dX7_breaksIn_99 cb_m9 ?_
              refine kw_goto X 106 dX7_breaksIn_101 (by decide) ?_
              obtain rfl := si1 hF
              exact hret _ _ _ (vp_nar_int _) dX7_breaksIn_106
          have hL63 : ∀ (F : Nat) (v5_16 : Int32) (v6_17 : Int32), f_X7_breaksIn_L63 p2 p3 F v5_16 v6_17 = some (e13, e14) → KW Γ 0 0 (wX7 cI h0 h1 h2 h3 h4 p sv asd tx states len at_ letter one two number) [(2, .int p2), (3, .int p3), (5, .int v5_16), (6, .int v6_17)] 63 [] := by
            intro F
            induction F with
            | zero => intro v5_16 v6_17 hF; exact none_some hF
            | succ F ih63 =>
              intro v5_16 v6_17 hF
              rw [f_X7_breaksIn_L63] at hF
              refine kw_iload X dX7_breaksIn_63 3 rfl ?_
              refine kw_bipush X dX7_breaksIn_65 cb_100 ?_
              refine kw_icmp_ge X 92 dX7_breaksIn_67 (by decide) (fun q18 => ?_) (fun q18 => ?_)
              · replace hF := (if_neg q18).symm.trans hF
                refine kw_loc (lo' := [(5, .int v5_16), (6, .int v6_17)]) [2, 3] rfl ?_
                obtain ⟨rfl, rfl⟩ := si2 hF
                exact J
              · replace hF := (if_pos q18).symm.trans hF
                refine kw_iload X dX7_breaksIn_70 2 rfl ?_
                refine kw_bipush X dX7_breaksIn_72 cb_32 ?_
                refine kw_icmp_ge X 92 dX7_breaksIn_74 (by decide) (fun q19 => ?_) (fun q19 => ?_)
                · replace hF := (if_neg q19).symm.trans hF
                  refine kw_loc (lo' := [(5, .int v5_16), (6, .int v6_17)]) [2, 3] rfl ?_
                  obtain ⟨rfl, rfl⟩ := si2 hF
                  exact J
                · replace hF := (if_pos q19).symm.trans hF
                  refine kw_iload X dX7_breaksIn_77 2 rfl ?_
                  refine kw_iload_n X dX7_breaksIn_79 rfl 0 rfl ?_
                  refine kw_iload_n X dX7_breaksIn_80 rfl 1 rfl ?_
                  refine kw_sp X (r := .int (f_X7_worn v5_16 p2 p3)) (As := [.int v5_16, .int p2, .int p3]) (st := []) (c_X7_worn l D cI cC cR  v5_16 p2 p3 (f_X7_worn v5_16 p2 p3) rfl) vl_X7_90 yv_X7_worn ⟨Nat.le_of_ble_eq_true rfl, Nat.le_of_ble_eq_true rfl⟩ ⟨rfl, rfl⟩ ⟨Nat.zero_le _, Nat.zero_le _⟩ [] rfl rfl rfl rfl (Nat.le_of_ble_eq_true rfl) dX7_breaksIn_81 ?_
                  refine kw_istore (lo' := [(2, .int p2), (3, .int p3), (5, .int (f_X7_worn v5_16 p2 p3)), (6, .int v6_17)]) X dX7_breaksIn_84 (by decide) [1, 2, 0, 3] rfl ?_
                  refine kw_iinc (lo' := [(2, .int p2), (3, .int p3), (5, .int (f_X7_worn v5_16 p2 p3)), (6, .int (v6_17 + 1))]) X dX7_breaksIn_86 3 rfl (congrArg (fun w => v6_17 + w) ci_1) (by decide) [1, 2, 3, 0] rfl ?_
                  refine kw_goto X 63 dX7_breaksIn_89 (by decide) ?_
                  exact ih63 _ _ hF
          exact hL63 Z _ _ hx
        · replace hF := (if_pos q5).symm.trans hF
          refine kw_bipush X dX7_breaksIn_45 cb_m2 ?_
          obtain rfl := si1 hF
          exact hret _ _ _ (vp_nar_int _) dX7_breaksIn_47
      · replace hF := (if_pos q3).symm.trans hF
        refine kw_iconst X dX7_breaksIn_26 ci_m1 ?_
        obtain rfl := si1 hF
        exact hret _ _ _ (vp_nar_int _) dX7_breaksIn_27
-- X7_wanting
def f_X7_wanting_L4 (p : Nat → Int32) (p1 : Int32) : Nat → Int32 → Int32 → Option (Int32)
  | 0, _, _ => none
  | F + 1, v2_24, v3_25 => (if v3_25 < 12 then ob1 (aget 986 p (297 + v3_25)) (fun a27 => (ob1 (if a27 = p1 then (ob1 (f_X7_canBorrow p v3_25) (fun (b34 : Int32) => (if b34 = 0 then (some 0) else (some 1)))) else (some 0)) (fun (x32 : Int32) => (f_X7_wanting_L4 p p1 F (v2_24 + x32) (v3_25 + 1))))) else (some (v2_24)))
def f_X7_wanting (Z : Nat) (p : Nat → Int32) (p1 : Int32) : Option (Int32) :=
  (ob1 (f_X7_wanting_L4 p p1 Z 0 0) (fun (e23 : Int32) => (some e23)))
abbrev rm_X7_wanting : Room := { frames := 1, cells := 0, slots := 0, locals := 21 }
set_option maxHeartbeats 4000000 in
set_option maxRecDepth 100000 in
theorem c_X7_wanting (l : Launch) (D : va_G) (cI cC cR : ClassId) (h0 h1 h2 h3 h4 : Nat) (p : Nat → Int32) (sv : Nat → Int32) (asd : Nat → Int32) (tx : Nat → Int32) (states : Int32) (len : Int32) (at_ : Int32) (letter : Int32) (one : Int32) (two : Int32) (number : Int32) (p1 : Int32) (Z : Nat) (r : Int32) (hF : f_X7_wanting Z p p1 = some r) : MPi l yX7_wanting cX7_wanting 4 (some .int) rm_X7_wanting D (TY cI cC cR) [.ref h0, .int p1] (wX7 cI h0 h1 h2 h3 h4 p sv asd tx states len at_ letter one two number) (.int r) := by
  refine me_p pn_X7 (Nat.le_of_ble_eq_true rfl) rfl (fun Γ X hret => ?_)
  unfold f_X7_wanting at hF
  refine kw_iconst X dX7_wanting_0 ci_0 ?_
  refine kw_istore_n (lo' := [(0, .ref h0), (1, .int p1), (2, .int 0)]) X dX7_wanting_1 rfl (by decide) [1, 2, 0] rfl ?_
  refine kw_iconst X dX7_wanting_2 ci_0 ?_
  refine kw_istore_n (lo' := [(0, .ref h0), (1, .int p1), (2, .int 0), (3, .int 0)]) X dX7_wanting_3 rfl (by decide) [1, 2, 3, 0] rfl ?_
  obtain ⟨e23, hx, hF⟩ := ob1_ex hF
  have J : KW Γ 0 0 (wX7 cI h0 h1 h2 h3 h4 p sv asd tx states len at_ letter one two number) [(2, .int e23)] 46 [] := by
    refine kw_iload_n X dX7_wanting_46 rfl 0 rfl ?_
    obtain rfl := si1 hF
    exact hret _ _ _ (vp_nar_int _) dX7_wanting_47
  have hL4 : ∀ (F : Nat) (v2_24 : Int32) (v3_25 : Int32), f_X7_wanting_L4 p p1 F v2_24 v3_25 = some (e23) → KW Γ 0 0 (wX7 cI h0 h1 h2 h3 h4 p sv asd tx states len at_ letter one two number) [(0, .ref h0), (1, .int p1), (2, .int v2_24), (3, .int v3_25)] 4 [] := by
    intro F
    induction F with
    | zero => intro v2_24 v3_25 hF; exact none_some hF
    | succ F ih4 =>
      intro v2_24 v3_25 hF
      rw [f_X7_wanting_L4] at hF
      refine kw_iload_n X dX7_wanting_4 rfl 3 rfl ?_
      refine kw_bipush X dX7_wanting_5 cb_12 ?_
      refine kw_icmp_ge X 46 dX7_wanting_7 (by decide) (fun q26 => ?_) (fun q26 => ?_)
      · replace hF := (if_neg q26).symm.trans hF
        refine kw_loc (lo' := [(2, .int v2_24)]) [2] rfl ?_
        obtain rfl := si1 hF
        exact J
      · replace hF := (if_pos q26).symm.trans hF
        refine kw_iload_n X dX7_wanting_10 rfl 2 rfl ?_
        refine kw_aload_n X dX7_wanting_11 rfl 0 rfl ?_
        refine kw_get X inX7 0 rfl rfl 0 (by decide) rfl gw_698 rfl dX7_wanting_12 ?_
        refine kw_sipush X dX7_wanting_15 cs_297 ?_
        refine kw_iload_n X dX7_wanting_18 rfl 3 rfl ?_
        refine kw_iadd X dX7_wanting_19 ?_
        obtain ⟨a27, hx, hF⟩ := ob1_ex hF
        obtain ⟨hin, hx⟩ := aget_ex hx
        refine kw_iald X 1 0 rfl rfl hin hx dX7_wanting_20 ?_
        refine kw_iload_n X dX7_wanting_21 rfl 1 rfl ?_
        obtain ⟨x32, hx33, hF⟩ := ob1_ex hF
        have J : KW Γ 0 0 (wX7 cI h0 h1 h2 h3 h4 p sv asd tx states len at_ letter one two number) [(0, .ref h0), (1, .int p1), (3, .int v3_25)] 38 [.int x32, .int v2_24] := by
          refine kw_iadd X dX7_wanting_38 ?_
          refine kw_istore_n (lo' := [(0, .ref h0), (1, .int p1), (2, .int (v2_24 + x32)), (3, .int v3_25)]) X dX7_wanting_39 rfl (by decide) [1, 2, 0, 3] rfl ?_
          refine kw_iinc (lo' := [(0, .ref h0), (1, .int p1), (2, .int (v2_24 + x32)), (3, .int (v3_25 + 1))]) X dX7_wanting_40 3 rfl (congrArg (fun w => v3_25 + w) ci_1) (by decide) [1, 2, 3, 0] rfl ?_
          refine kw_goto X 4 dX7_wanting_43 (by decide) ?_
          exact ih4 _ _ hF
        replace hF := hx33
        refine kw_icmp_ne X 37 dX7_wanting_22 (by decide) (fun q28 => ?_) (fun q28 => ?_)
        · replace hF := (if_neg q28).symm.trans hF
          refine kw_iconst X dX7_wanting_37 ci_0 ?_
          refine kw_loc (lo' := [(0, .ref h0), (1, .int p1), (3, .int v3_25)]) [0, 1, 3] rfl ?_
          obtain rfl := si1 hF
          exact J
        · replace hF := (if_pos q28).symm.trans hF
          refine kw_aload_n X dX7_wanting_25 rfl 0 rfl ?_
          refine kw_iload_n X dX7_wanting_26 rfl 3 rfl ?_
          obtain ⟨b34, hx34, hF⟩ := ob1_ex hF
          refine kw_ap X (r := .int b34) (As := [.int v3_25]) (st := [.int v2_24]) (c_X7_canBorrow l D cI cC cR h0 h1 h2 h3 h4 p sv asd tx states len at_ letter one two number v3_25 b34 hx34) vl_X7_68 yv_X7_canBorrow ⟨Nat.le_of_ble_eq_true rfl, Nat.le_of_ble_eq_true rfl⟩ ⟨rfl, rfl⟩ ⟨Nat.zero_le _, Nat.zero_le _⟩ 0 rfl rfl rfl rfl (Nat.le_of_ble_eq_true rfl) dX7_wanting_27 ?_
          refine kw_if_eq X 37 dX7_wanting_30 (by decide) (fun q35 => ?_) (fun q35 => ?_)
          · replace hF := (if_pos q35).symm.trans hF
            refine kw_iconst X dX7_wanting_37 ci_0 ?_
            refine kw_loc (lo' := [(0, .ref h0), (1, .int p1), (3, .int v3_25)]) [0, 1, 3] rfl ?_
            obtain rfl := si1 hF
            exact J
          · replace hF := (if_neg q35).symm.trans hF
            refine kw_iconst X dX7_wanting_33 ci_1 ?_
            refine kw_goto X 38 dX7_wanting_34 (by decide) ?_
            refine kw_loc (lo' := [(0, .ref h0), (1, .int p1), (3, .int v3_25)]) [0, 1, 3] rfl ?_
            obtain rfl := si1 hF
            exact J
  exact hL4 Z _ _ hx
-- X7_emptied
def f_X7_emptied_L70 (w9 : Nat → Int32) : Nat → Int32 → (Nat → Int32) → Option ((Nat → Int32))
  | 0, _, _ => none
  | F + 1, v3_34, w35 => (if v3_34 < 328 then ob1 (aget 328 w9 v3_34) (fun a37 => ob1 (aset 986 w35 v3_34 a37) (fun m38 => (f_X7_emptied_L70 w9 F (v3_34 + 1) m38))) else (some (w35)))
def f_X7_emptied_L38 (Z : Nat) (m11 : Nat → Int32) : Nat → Int32 → Int32 → Option (Int32)
  | 0, _, _ => none
  | F + 1, v2_39, v3_40 => (if v3_40 < 8 then (ob1 (f_X7_bestOf Z m11 v3_40) (fun (b42 : Int32) => (pl1 (if b42 < 0 then (1 <<< (v3_40 &&& 31)) else 0) (fun (x44 : Int32) => (f_X7_emptied_L38 Z m11 F (v2_39 ||| x44) (v3_40 + 1)))))) else (some (v2_39)))
def f_X7_emptied_L2 (p : Nat → Int32) : Nat → Int32 → (Nat → Int32) → Option ((Nat → Int32))
  | 0, _, _ => none
  | F + 1, v1_46, w47 => (if v1_46 < 328 then ob1 (aget 986 p v1_46) (fun a49 => ob1 (aset 328 w47 v1_46 a49) (fun m50 => (f_X7_emptied_L2 p F (v1_46 + 1) m50))) else (some (w47)))
def f_X7_emptied (Z : Nat) (p : Nat → Int32) (asd : Nat → Int32) : Option (Int32 × (Nat → Int32) × (Nat → Int32)) :=
  (ob1 (f_X7_emptied_L2 p Z 0 asd) (fun (w9 : Nat → Int32) => (ob2 (f_X7_passes Z p 5 0) (fun (b10 : Int32) (m11 : Nat → Int32) => (ob1 (f_X7_emptied_L38 Z m11 Z 0 0) (fun (e24 : Int32) => (ob1 (f_X7_emptied_L70 w9 Z 0 m11) (fun (w33 : Nat → Int32) => (some (e24, w33, w9))))))))))
abbrev rm_X7_emptied : Room := { frames := 4, cells := 0, slots := 0, locals := 97 }
set_option maxHeartbeats 4000000 in
set_option maxRecDepth 100000 in
theorem c_X7_emptied (l : Launch) (D : va_G) (cI cC cR : ClassId) (h0 h1 h2 h3 h4 : Nat) (p : Nat → Int32) (sv : Nat → Int32) (asd : Nat → Int32) (tx : Nat → Int32) (states : Int32) (len : Int32) (at_ : Int32) (letter : Int32) (one : Int32) (two : Int32) (number : Int32) (Z : Nat) (r : Int32) (p' : Nat → Int32) (asd' : Nat → Int32) (hF : f_X7_emptied Z p asd = some (r, p', asd')) : MEq l yX7_emptied cX7_emptied 4 (some .int) rm_X7_emptied D (TY cI cC cR) [.ref h0] (wX7 cI h0 h1 h2 h3 h4 p sv asd tx states len at_ letter one two number) (wX7 cI h0 h1 h2 h3 h4 p' sv asd' tx states len at_ letter one two number) (some (.int r)) := by
  refine me_e pn_X7 (Nat.le_of_ble_eq_true rfl) rfl (fun Γ X E hret => ?_)
  unfold f_X7_emptied at hF
  refine kw_iconst X dX7_emptied_0 ci_0 ?_
  refine kw_istore_n (lo' := [(0, .ref h0), (1, .int 0)]) X dX7_emptied_1 rfl (by decide) [1, 0] rfl ?_
  obtain ⟨w9, hx, hF⟩ := ob1_ex hF
  have J : KW Γ 0 0 (wX7 cI h0 h1 h2 h3 h4 p sv w9 tx states len at_ letter one two number) [(0, .ref h0)] 27 [] := by
    refine kw_aload_n X dX7_emptied_27 rfl 0 rfl ?_
    refine kw_iconst X dX7_emptied_28 ci_5 ?_
    refine kw_iconst X dX7_emptied_29 ci_0 ?_
    obtain ⟨b10, m11, hx11, hF⟩ := ob2_ex hF
    refine kw_aei X (r := .int b10) (As := [.int 5, .int 0]) (st := []) E (c_X7_passes l D cI cC cR h0 h1 h2 h3 h4 p sv w9 tx states len at_ letter one two number 5 0 Z b10 m11 hx11) vl_X7_97 yv_X7_passes ⟨Nat.le_of_ble_eq_true rfl, Nat.le_of_ble_eq_true rfl⟩ ⟨rfl, rfl⟩ ⟨Nat.zero_le _, Nat.zero_le _⟩ 0 rfl rfl rfl rfl (Nat.le_of_ble_eq_true rfl) dX7_emptied_30 ?_
    refine kw_istore_n (lo' := [(0, .ref h0), (1, .int b10)]) X dX7_emptied_33 rfl (by decide) [1, 0] rfl ?_
    refine kw_iconst X dX7_emptied_34 ci_0 ?_
    refine kw_istore_n (lo' := [(0, .ref h0), (1, .int b10), (2, .int 0)]) X dX7_emptied_35 rfl (by decide) [1, 2, 0] rfl ?_
    refine kw_iconst X dX7_emptied_36 ci_0 ?_
    refine kw_istore_n (lo' := [(0, .ref h0), (1, .int b10), (2, .int 0), (3, .int 0)]) X dX7_emptied_37 rfl (by decide) [1, 2, 3, 0] rfl ?_
    refine kw_loc (lo' := [(0, .ref h0), (2, .int 0), (3, .int 0)]) [0, 2, 3] rfl ?_
    obtain ⟨e24, hx, hF⟩ := ob1_ex hF
    have J : KW Γ 0 0 (wX7 cI h0 h1 h2 h3 h4 m11 sv w9 tx states len at_ letter one two number) [(0, .ref h0), (2, .int e24)] 68 [] := by
      refine kw_iconst X dX7_emptied_68 ci_0 ?_
      refine kw_istore_n (lo' := [(0, .ref h0), (2, .int e24), (3, .int 0)]) X dX7_emptied_69 rfl (by decide) [1, 2, 0] rfl ?_
      obtain ⟨w33, hx, hF⟩ := ob1_ex hF
      have J : KW Γ 0 0 (wX7 cI h0 h1 h2 h3 h4 w33 sv w9 tx states len at_ letter one two number) [(2, .int e24)] 95 [] := by
        refine kw_iload_n X dX7_emptied_95 rfl 0 rfl ?_
        obtain ⟨rfl, rfl, rfl⟩ := si3 hF
        exact hret _ _ (vp_nar_int _) dX7_emptied_96
      have hL70 : ∀ (F : Nat) (v3_34 : Int32) (w35 : Nat → Int32), f_X7_emptied_L70 w9 F v3_34 w35 = some (w33) → KW Γ 0 0 (wX7 cI h0 h1 h2 h3 h4 w35 sv w9 tx states len at_ letter one two number) [(0, .ref h0), (2, .int e24), (3, .int v3_34)] 70 [] := by
        intro F
        induction F with
        | zero => intro v3_34 w35 hF; exact none_some hF
        | succ F ih70 =>
          intro v3_34 w35 hF
          rw [f_X7_emptied_L70] at hF
          refine kw_iload_n X dX7_emptied_70 rfl 2 rfl ?_
          refine kw_sipush X dX7_emptied_71 cs_328 ?_
          refine kw_icmp_ge X 95 dX7_emptied_74 (by decide) (fun q36 => ?_) (fun q36 => ?_)
          · replace hF := (if_neg q36).symm.trans hF
            refine kw_loc (lo' := [(2, .int e24)]) [1] rfl ?_
            obtain rfl := si1 hF
            exact J
          · replace hF := (if_pos q36).symm.trans hF
            refine kw_aload_n X dX7_emptied_77 rfl 0 rfl ?_
            refine kw_get X inX7 0 rfl rfl 0 (by decide) rfl gw_698 rfl dX7_emptied_78 ?_
            refine kw_iload_n X dX7_emptied_81 rfl 2 rfl ?_
            refine kw_aload_n X dX7_emptied_82 rfl 0 rfl ?_
            refine kw_get X inX7 0 rfl rfl 2 (by decide) rfl gw_700 rfl dX7_emptied_83 ?_
            refine kw_iload_n X dX7_emptied_86 rfl 2 rfl ?_
            obtain ⟨a37, hx, hF⟩ := ob1_ex hF
            obtain ⟨hin, hx⟩ := aget_ex hx
            refine kw_iald X 3 0 rfl rfl hin hx dX7_emptied_87 ?_
            obtain ⟨m38, hx, hF⟩ := ob1_ex hF
            obtain ⟨hin, hx⟩ := aset_ex hx
            refine kw_iast X E 1 0 rfl rfl hin (ws' := wX7 cI h0 h1 h2 h3 h4 m38 sv w9 tx states len at_ letter one two number) (by rw [hx]; rfl) dX7_emptied_88 ?_
            refine kw_iinc (lo' := [(0, .ref h0), (2, .int e24), (3, .int (v3_34 + 1))]) X dX7_emptied_89 2 rfl (congrArg (fun w => v3_34 + w) ci_1) (by decide) [1, 2, 0] rfl ?_
            refine kw_goto X 70 dX7_emptied_92 (by decide) ?_
            exact ih70 _ _ hF
      exact hL70 Z _ _ hx
    have hL38 : ∀ (F : Nat) (v2_39 : Int32) (v3_40 : Int32), f_X7_emptied_L38 Z m11 F v2_39 v3_40 = some (e24) → KW Γ 0 0 (wX7 cI h0 h1 h2 h3 h4 m11 sv w9 tx states len at_ letter one two number) [(0, .ref h0), (2, .int v2_39), (3, .int v3_40)] 38 [] := by
      intro F
      induction F with
      | zero => intro v2_39 v3_40 hF; exact none_some hF
      | succ F ih38 =>
        intro v2_39 v3_40 hF
        rw [f_X7_emptied_L38] at hF
        refine kw_iload_n X dX7_emptied_38 rfl 2 rfl ?_
        refine kw_bipush X dX7_emptied_39 cb_8 ?_
        refine kw_icmp_ge X 68 dX7_emptied_41 (by decide) (fun q41 => ?_) (fun q41 => ?_)
        · replace hF := (if_neg q41).symm.trans hF
          refine kw_loc (lo' := [(0, .ref h0), (2, .int v2_39)]) [0, 1] rfl ?_
          obtain rfl := si1 hF
          exact J
        · replace hF := (if_pos q41).symm.trans hF
          refine kw_iload_n X dX7_emptied_44 rfl 1 rfl ?_
          refine kw_aload_n X dX7_emptied_45 rfl 0 rfl ?_
          refine kw_iload_n X dX7_emptied_46 rfl 2 rfl ?_
          obtain ⟨b42, hx42, hF⟩ := ob1_ex hF
          refine kw_ap X (r := .int b42) (As := [.int v3_40]) (st := [.int v2_39]) (c_X7_bestOf l D cI cC cR h0 h1 h2 h3 h4 m11 sv w9 tx states len at_ letter one two number v3_40 Z b42 hx42) vl_X7_71 yv_X7_bestOf ⟨Nat.le_of_ble_eq_true rfl, Nat.le_of_ble_eq_true rfl⟩ ⟨rfl, rfl⟩ ⟨Nat.zero_le _, Nat.zero_le _⟩ 0 rfl rfl rfl rfl (Nat.le_of_ble_eq_true rfl) dX7_emptied_47 ?_
          obtain ⟨x44, hx45, hF⟩ := pl1_ex hF
          have J : KW Γ 0 0 (wX7 cI h0 h1 h2 h3 h4 m11 sv w9 tx states len at_ letter one two number) [(0, .ref h0), (3, .int v3_40)] 60 [.int x44, .int v2_39] := by
            refine kw_ior X dX7_emptied_60 ?_
            refine kw_istore_n (lo' := [(0, .ref h0), (2, .int (v2_39 ||| x44)), (3, .int v3_40)]) X dX7_emptied_61 rfl (by decide) [1, 0, 2] rfl ?_
            refine kw_iinc (lo' := [(0, .ref h0), (2, .int (v2_39 ||| x44)), (3, .int (v3_40 + 1))]) X dX7_emptied_62 2 rfl (congrArg (fun w => v3_40 + w) ci_1) (by decide) [1, 2, 0] rfl ?_
            refine kw_goto X 38 dX7_emptied_65 (by decide) ?_
            exact ih38 _ _ hF
          replace hF := hx45
          refine kw_if_ge X 59 dX7_emptied_50 (by decide) (fun q43 => ?_) (fun q43 => ?_)
          · replace hF := (if_neg q43).symm.trans hF
            refine kw_iconst X dX7_emptied_59 ci_0 ?_
            refine kw_loc (lo' := [(0, .ref h0), (3, .int v3_40)]) [0, 2] rfl ?_
            obtain rfl := ti1 hF
            exact J
          · replace hF := (if_pos q43).symm.trans hF
            refine kw_iconst X dX7_emptied_53 ci_1 ?_
            refine kw_iload_n X dX7_emptied_54 rfl 2 rfl ?_
            refine kw_ishl X dX7_emptied_55 ?_
            refine kw_goto X 60 dX7_emptied_56 (by decide) ?_
            refine kw_loc (lo' := [(0, .ref h0), (3, .int v3_40)]) [0, 2] rfl ?_
            obtain rfl := ti1 hF
            exact J
    exact hL38 Z _ _ hx
  have hL2 : ∀ (F : Nat) (v1_46 : Int32) (w47 : Nat → Int32), f_X7_emptied_L2 p F v1_46 w47 = some (w9) → KW Γ 0 0 (wX7 cI h0 h1 h2 h3 h4 p sv w47 tx states len at_ letter one two number) [(0, .ref h0), (1, .int v1_46)] 2 [] := by
    intro F
    induction F with
    | zero => intro v1_46 w47 hF; exact none_some hF
    | succ F ih2 =>
      intro v1_46 w47 hF
      rw [f_X7_emptied_L2] at hF
      refine kw_iload_n X dX7_emptied_2 rfl 1 rfl ?_
      refine kw_sipush X dX7_emptied_3 cs_328 ?_
      refine kw_icmp_ge X 27 dX7_emptied_6 (by decide) (fun q48 => ?_) (fun q48 => ?_)
      · replace hF := (if_neg q48).symm.trans hF
        refine kw_loc (lo' := [(0, .ref h0)]) [0] rfl ?_
        obtain rfl := si1 hF
        exact J
      · replace hF := (if_pos q48).symm.trans hF
        refine kw_aload_n X dX7_emptied_9 rfl 0 rfl ?_
        refine kw_get X inX7 0 rfl rfl 2 (by decide) rfl gw_700 rfl dX7_emptied_10 ?_
        refine kw_iload_n X dX7_emptied_13 rfl 1 rfl ?_
        refine kw_aload_n X dX7_emptied_14 rfl 0 rfl ?_
        refine kw_get X inX7 0 rfl rfl 0 (by decide) rfl gw_698 rfl dX7_emptied_15 ?_
        refine kw_iload_n X dX7_emptied_18 rfl 1 rfl ?_
        obtain ⟨a49, hx, hF⟩ := ob1_ex hF
        obtain ⟨hin, hx⟩ := aget_ex hx
        refine kw_iald X 1 0 rfl rfl hin hx dX7_emptied_19 ?_
        obtain ⟨m50, hx, hF⟩ := ob1_ex hF
        obtain ⟨hin, hx⟩ := aset_ex hx
        refine kw_iast X E 3 0 rfl rfl hin (ws' := wX7 cI h0 h1 h2 h3 h4 p sv m50 tx states len at_ letter one two number) (by rw [hx]; rfl) dX7_emptied_20 ?_
        refine kw_iinc (lo' := [(0, .ref h0), (1, .int (v1_46 + 1))]) X dX7_emptied_21 1 rfl (congrArg (fun w => v1_46 + w) ci_1) (by decide) [1, 0] rfl ?_
        refine kw_goto X 2 dX7_emptied_24 (by decide) ?_
        exact ih2 _ _ hF
  exact hL2 Z _ _ hx
-- X7_shortest
def f_X7_shortest_L20 (Z : Nat) (p : Nat → Int32) : Nat → Int32 → Int32 → Int32 → Option (Int32 × Int32)
  | 0, _, _, _ => none
  | F + 1, v2_40, v3_41, v4_42 => (if v4_42 < 8 then (ob1 (f_X7_wanting Z p v4_42) (fun (b44 : Int32) => (ob1 (f_X7_manyAt Z p 0 v4_42) (fun (b45 : Int32) => (ob1 (f_X7_brokenAt Z p 0 v4_42) (fun (b46 : Int32) => (pl1 (if 0 < ((b44 - b45) + b46) then (if v2_40 < 0 then 1 else (if ((b44 - b45) + b46) < v3_41 then 1 else 0)) else 0) (fun (x50 : Int32) => (pl1 (if x50 = 0 then v2_40 else v4_42) (fun (x53 : Int32) => (pl1 (if x50 = 0 then v3_41 else ((b44 - b45) + b46)) (fun (x56 : Int32) => (f_X7_shortest_L20 Z p F x53 x56 (v4_42 + 1)))))))))))))) else (some (v2_40, v3_41)))
def f_X7_shortest (Z : Nat) (p : Nat → Int32) (p1 : Int32) : Option (Int32) :=
  (if (f_X7_in p1 0 1) = 0 then (some (-1)) else (ob2 (f_X7_shortest_L20 Z p Z (-9) (-9) 0) (fun (e37 : Int32) (e38 : Int32) => (if p1 = 0 then (some e37) else (some e38)))))
abbrev rm_X7_shortest : Room := { frames := 2, cells := 0, slots := 0, locals := 47 }
set_option maxHeartbeats 4000000 in
set_option maxRecDepth 100000 in
theorem c_X7_shortest (l : Launch) (D : va_G) (cI cC cR : ClassId) (h0 h1 h2 h3 h4 : Nat) (p : Nat → Int32) (sv : Nat → Int32) (asd : Nat → Int32) (tx : Nat → Int32) (states : Int32) (len : Int32) (at_ : Int32) (letter : Int32) (one : Int32) (two : Int32) (number : Int32) (p1 : Int32) (Z : Nat) (r : Int32) (hF : f_X7_shortest Z p p1 = some r) : MPi l yX7_shortest cX7_shortest 7 (some .int) rm_X7_shortest D (TY cI cC cR) [.ref h0, .int p1] (wX7 cI h0 h1 h2 h3 h4 p sv asd tx states len at_ letter one two number) (.int r) := by
  refine me_p pn_X7 (Nat.le_of_ble_eq_true rfl) rfl (fun Γ X hret => ?_)
  unfold f_X7_shortest at hF
  refine kw_iload_n X dX7_shortest_0 rfl 1 rfl ?_
  refine kw_iconst X dX7_shortest_1 ci_0 ?_
  refine kw_iconst X dX7_shortest_2 ci_1 ?_
  refine kw_sp X (r := .int (f_X7_in p1 0 1)) (As := [.int p1, .int 0, .int 1]) (st := []) (c_X7_in l D cI cC cR  p1 0 1 (f_X7_in p1 0 1) rfl) vl_X7_22 yv_X7_in ⟨Nat.le_of_ble_eq_true rfl, Nat.le_of_ble_eq_true rfl⟩ ⟨rfl, rfl⟩ ⟨Nat.zero_le _, Nat.zero_le _⟩ [] rfl rfl rfl rfl (Nat.le_of_ble_eq_true rfl) dX7_shortest_3 ?_
  refine kw_if_ne X 11 dX7_shortest_6 (by decide) (fun q1 => ?_) (fun q1 => ?_)
  · replace hF := (if_neg q1).symm.trans hF
    refine kw_bipush X dX7_shortest_11 cb_m9 ?_
    refine kw_istore_n (lo' := [(0, .ref h0), (1, .int p1), (2, .int (-9))]) X dX7_shortest_13 rfl (by decide) [1, 2, 0] rfl ?_
    refine kw_bipush X dX7_shortest_14 cb_m9 ?_
    refine kw_istore_n (lo' := [(0, .ref h0), (1, .int p1), (2, .int (-9)), (3, .int (-9))]) X dX7_shortest_16 rfl (by decide) [1, 2, 3, 0] rfl ?_
    refine kw_iconst X dX7_shortest_17 ci_0 ?_
    refine kw_istore (lo' := [(0, .ref h0), (1, .int p1), (2, .int (-9)), (3, .int (-9)), (4, .int 0)]) X dX7_shortest_18 (by decide) [1, 2, 3, 4, 0] rfl ?_
    obtain ⟨e37, e38, hx, hF⟩ := ob2_ex hF
    have J : KW Γ 0 0 (wX7 cI h0 h1 h2 h3 h4 p sv asd tx states len at_ letter one two number) [(1, .int p1), (2, .int e37), (3, .int e38)] 103 [] := by
      refine kw_iload_n X dX7_shortest_103 rfl 0 rfl ?_
      refine kw_if_ne X 111 dX7_shortest_104 (by decide) (fun q39 => ?_) (fun q39 => ?_)
      · replace hF := (if_neg q39).symm.trans hF
        refine kw_iload_n X dX7_shortest_111 rfl 2 rfl ?_
        obtain rfl := si1 hF
        exact hret _ _ _ (vp_nar_int _) dX7_shortest_112
      · replace hF := (if_pos q39).symm.trans hF
        refine kw_iload_n X dX7_shortest_107 rfl 1 rfl ?_
        refine kw_goto X 112 dX7_shortest_108 (by decide) ?_
        obtain rfl := si1 hF
        exact hret _ _ _ (vp_nar_int _) dX7_shortest_112
    have hL20 : ∀ (F : Nat) (v2_40 : Int32) (v3_41 : Int32) (v4_42 : Int32), f_X7_shortest_L20 Z p F v2_40 v3_41 v4_42 = some (e37, e38) → KW Γ 0 0 (wX7 cI h0 h1 h2 h3 h4 p sv asd tx states len at_ letter one two number) [(0, .ref h0), (1, .int p1), (2, .int v2_40), (3, .int v3_41), (4, .int v4_42)] 20 [] := by
      intro F
      induction F with
      | zero => intro v2_40 v3_41 v4_42 hF; exact none_some hF
      | succ F ih20 =>
        intro v2_40 v3_41 v4_42 hF
        rw [f_X7_shortest_L20] at hF
        refine kw_iload X dX7_shortest_20 4 rfl ?_
        refine kw_bipush X dX7_shortest_22 cb_8 ?_
        refine kw_icmp_ge X 103 dX7_shortest_24 (by decide) (fun q43 => ?_) (fun q43 => ?_)
        · replace hF := (if_neg q43).symm.trans hF
          refine kw_loc (lo' := [(1, .int p1), (2, .int v2_40), (3, .int v3_41)]) [1, 2, 3] rfl ?_
          obtain ⟨rfl, rfl⟩ := si2 hF
          exact J
        · replace hF := (if_pos q43).symm.trans hF
          refine kw_aload_n X dX7_shortest_27 rfl 0 rfl ?_
          refine kw_iload X dX7_shortest_28 4 rfl ?_
          obtain ⟨b44, hx44, hF⟩ := ob1_ex hF
          refine kw_ap X (r := .int b44) (As := [.int v4_42]) (st := []) (c_X7_wanting l D cI cC cR h0 h1 h2 h3 h4 p sv asd tx states len at_ letter one two number v4_42 Z b44 hx44) vl_X7_164 yv_X7_wanting ⟨Nat.le_of_ble_eq_true rfl, Nat.le_of_ble_eq_true rfl⟩ ⟨rfl, rfl⟩ ⟨Nat.zero_le _, Nat.zero_le _⟩ 0 rfl rfl rfl rfl (Nat.le_of_ble_eq_true rfl) dX7_shortest_30 ?_
          refine kw_aload_n X dX7_shortest_33 rfl 0 rfl ?_
          refine kw_iconst X dX7_shortest_34 ci_0 ?_
          refine kw_iload X dX7_shortest_35 4 rfl ?_
          obtain ⟨b45, hx45, hF⟩ := ob1_ex hF
          refine kw_ap X (r := .int b45) (As := [.int 0, .int v4_42]) (st := [.int b44]) (c_X7_manyAt l D cI cC cR h0 h1 h2 h3 h4 p sv asd tx states len at_ letter one two number 0 v4_42 Z b45 hx45) vl_X7_37 yv_X7_manyAt ⟨Nat.le_of_ble_eq_true rfl, Nat.le_of_ble_eq_true rfl⟩ ⟨rfl, rfl⟩ ⟨Nat.zero_le _, Nat.zero_le _⟩ 0 rfl rfl rfl rfl (Nat.le_of_ble_eq_true rfl) dX7_shortest_37 ?_
          refine kw_isub X dX7_shortest_40 ?_
          refine kw_aload_n X dX7_shortest_41 rfl 0 rfl ?_
          refine kw_iconst X dX7_shortest_42 ci_0 ?_
          refine kw_iload X dX7_shortest_43 4 rfl ?_
          obtain ⟨b46, hx46, hF⟩ := ob1_ex hF
          refine kw_ap X (r := .int b46) (As := [.int 0, .int v4_42]) (st := [.int (b44 - b45)]) (c_X7_brokenAt l D cI cC cR h0 h1 h2 h3 h4 p sv asd tx states len at_ letter one two number 0 v4_42 Z b46 hx46) vl_X7_106 yv_X7_brokenAt ⟨Nat.le_of_ble_eq_true rfl, Nat.le_of_ble_eq_true rfl⟩ ⟨rfl, rfl⟩ ⟨Nat.zero_le _, Nat.zero_le _⟩ 0 rfl rfl rfl rfl (Nat.le_of_ble_eq_true rfl) dX7_shortest_45 ?_
          refine kw_iadd X dX7_shortest_48 ?_
          refine kw_istore (lo' := [(0, .ref h0), (1, .int p1), (2, .int v2_40), (3, .int v3_41), (4, .int v4_42), (5, .int ((b44 - b45) + b46))]) X dX7_shortest_49 (by decide) [1, 2, 3, 4, 5, 0] rfl ?_
          refine kw_iload X dX7_shortest_51 5 rfl ?_
          obtain ⟨x50, hx51, hF⟩ := pl1_ex hF
          have J : KW Γ 0 0 (wX7 cI h0 h1 h2 h3 h4 p sv asd tx states len at_ letter one two number) [(0, .ref h0), (1, .int p1), (2, .int v2_40), (3, .int v3_41), (4, .int v4_42), (5, .int ((b44 - b45) + b46))] 71 [.int x50] := by
            refine kw_istore (lo' := [(0, .ref h0), (1, .int p1), (2, .int v2_40), (3, .int v3_41), (4, .int v4_42), (5, .int ((b44 - b45) + b46)), (6, .int x50)]) X dX7_shortest_71 (by decide) [1, 2, 3, 4, 5, 6, 0] rfl ?_
            refine kw_iload X dX7_shortest_73 6 rfl ?_
            obtain ⟨x53, hx54, hF⟩ := pl1_ex hF
            have J : KW Γ 0 0 (wX7 cI h0 h1 h2 h3 h4 p sv asd tx states len at_ letter one two number) [(0, .ref h0), (1, .int p1), (3, .int v3_41), (4, .int v4_42), (5, .int ((b44 - b45) + b46)), (6, .int x50)] 84 [.int x53] := by
              refine kw_istore_n (lo' := [(0, .ref h0), (1, .int p1), (2, .int x53), (3, .int v3_41), (4, .int v4_42), (5, .int ((b44 - b45) + b46)), (6, .int x50)]) X dX7_shortest_84 rfl (by decide) [1, 2, 0, 3, 4, 5, 6] rfl ?_
              refine kw_iload X dX7_shortest_85 6 rfl ?_
              obtain ⟨x56, hx57, hF⟩ := pl1_ex hF
              have J : KW Γ 0 0 (wX7 cI h0 h1 h2 h3 h4 p sv asd tx states len at_ letter one two number) [(0, .ref h0), (1, .int p1), (2, .int x53), (4, .int v4_42)] 96 [.int x56] := by
                refine kw_istore_n (lo' := [(0, .ref h0), (1, .int p1), (2, .int x53), (3, .int x56), (4, .int v4_42)]) X dX7_shortest_96 rfl (by decide) [1, 2, 3, 0, 4] rfl ?_
                refine kw_iinc (lo' := [(0, .ref h0), (1, .int p1), (2, .int x53), (3, .int x56), (4, .int (v4_42 + 1))]) X dX7_shortest_97 4 rfl (congrArg (fun w => v4_42 + w) ci_1) (by decide) [1, 2, 3, 4, 0] rfl ?_
                refine kw_goto X 20 dX7_shortest_100 (by decide) ?_
                exact ih20 _ _ _ hF
              replace hF := hx57
              refine kw_if_eq X 95 dX7_shortest_87 (by decide) (fun q55 => ?_) (fun q55 => ?_)
              · replace hF := (if_pos q55).symm.trans hF
                refine kw_iload_n X dX7_shortest_95 rfl 3 rfl ?_
                refine kw_loc (lo' := [(0, .ref h0), (1, .int p1), (2, .int x53), (4, .int v4_42)]) [0, 1, 2, 4] rfl ?_
                obtain rfl := ti1 hF
                exact J
              · replace hF := (if_neg q55).symm.trans hF
                refine kw_iload X dX7_shortest_90 5 rfl ?_
                refine kw_goto X 96 dX7_shortest_92 (by decide) ?_
                refine kw_loc (lo' := [(0, .ref h0), (1, .int p1), (2, .int x53), (4, .int v4_42)]) [0, 1, 2, 4] rfl ?_
                obtain rfl := ti1 hF
                exact J
            replace hF := hx54
            refine kw_if_eq X 83 dX7_shortest_75 (by decide) (fun q52 => ?_) (fun q52 => ?_)
            · replace hF := (if_pos q52).symm.trans hF
              refine kw_iload_n X dX7_shortest_83 rfl 2 rfl ?_
              refine kw_loc (lo' := [(0, .ref h0), (1, .int p1), (3, .int v3_41), (4, .int v4_42), (5, .int ((b44 - b45) + b46)), (6, .int x50)]) [0, 1, 3, 4, 5, 6] rfl ?_
              obtain rfl := ti1 hF
              exact J
            · replace hF := (if_neg q52).symm.trans hF
              refine kw_iload X dX7_shortest_78 4 rfl ?_
              refine kw_goto X 84 dX7_shortest_80 (by decide) ?_
              refine kw_loc (lo' := [(0, .ref h0), (1, .int p1), (3, .int v3_41), (4, .int v4_42), (5, .int ((b44 - b45) + b46)), (6, .int x50)]) [0, 1, 3, 4, 5, 6] rfl ?_
              obtain rfl := ti1 hF
              exact J
          replace hF := hx51
          refine kw_if_le X 70 dX7_shortest_53 (by decide) (fun q47 => ?_) (fun q47 => ?_)
          · replace hF := (if_neg q47).symm.trans hF
            refine kw_iconst X dX7_shortest_70 ci_0 ?_
            obtain rfl := ti1 hF
            exact J
          · replace hF := (if_pos q47).symm.trans hF
            refine kw_iload_n X dX7_shortest_56 rfl 2 rfl ?_
            refine kw_if_lt X 66 dX7_shortest_57 (by decide) (fun q58 => ?_) (fun q58 => ?_)
            · replace hF := (if_pos q58).symm.trans hF
              refine kw_iconst X dX7_shortest_66 ci_1 ?_
              refine kw_goto X 71 dX7_shortest_67 (by decide) ?_
              obtain rfl := ti1 hF
              exact J
            · replace hF := (if_neg q58).symm.trans hF
              refine kw_iload X dX7_shortest_60 5 rfl ?_
              refine kw_iload_n X dX7_shortest_62 rfl 3 rfl ?_
              refine kw_icmp_ge X 70 dX7_shortest_63 (by decide) (fun q59 => ?_) (fun q59 => ?_)
              · replace hF := (if_neg q59).symm.trans hF
                refine kw_iconst X dX7_shortest_70 ci_0 ?_
                obtain rfl := ti1 hF
                exact J
              · replace hF := (if_pos q59).symm.trans hF
                refine kw_iconst X dX7_shortest_66 ci_1 ?_
                refine kw_goto X 71 dX7_shortest_67 (by decide) ?_
                obtain rfl := ti1 hF
                exact J
    exact hL20 Z _ _ _ hx
  · replace hF := (if_pos q1).symm.trans hF
    refine kw_iconst X dX7_shortest_9 ci_m1 ?_
    obtain rfl := si1 hF
    exact hret _ _ _ (vp_nar_int _) dX7_shortest_10
