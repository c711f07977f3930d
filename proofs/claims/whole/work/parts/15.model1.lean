-- X7_in
def f_X7_in (p1 : Int32) (p2 : Int32) (p3 : Int32) : Int32 :=
  (if p1 < p2 then 0 else (if p3 < p1 then 0 else 1))
abbrev rm_X7_in : Room := { frames := 0, cells := 0, slots := 0, locals := 0 }
set_option maxHeartbeats 4000000 in
set_option maxRecDepth 100000 in
theorem c_X7_in (l : Launch) (D : va_G) (cI cC cR : ClassId) (p1 : Int32) (p2 : Int32) (p3 : Int32) (r : Int32) (hF : f_X7_in p1 p2 p3 = r) : MPi l yX7_in cX7_in 3 (some .boolean) rm_X7_in D (TY cI cC cR) [.int p1, .int p2, .int p3] ([]) (.int r) := by
  refine me_p pn_X7 (Nat.le_of_ble_eq_true rfl) rfl (fun Γ X hret => ?_)
  unfold f_X7_in at hF
  refine kw_iload_n X dX7_in_0 rfl 0 rfl ?_
  refine kw_iload_n X dX7_in_1 rfl 1 rfl ?_
  refine kw_icmp_lt X 14 dX7_in_2 (by decide) (fun q1 => ?_) (fun q1 => ?_)
  · replace hF := (if_pos q1).symm.trans hF
    refine kw_iconst X dX7_in_14 ci_0 ?_
    obtain rfl := ti1 hF
    exact hret _ _ _ rfl dX7_in_15
  · replace hF := (if_neg q1).symm.trans hF
    refine kw_iload_n X dX7_in_5 rfl 0 rfl ?_
    refine kw_iload_n X dX7_in_6 rfl 2 rfl ?_
    refine kw_icmp_gt X 14 dX7_in_7 (by decide) (fun q2 => ?_) (fun q2 => ?_)
    · replace hF := (if_pos q2).symm.trans hF
      refine kw_iconst X dX7_in_14 ci_0 ?_
      obtain rfl := ti1 hF
      exact hret _ _ _ rfl dX7_in_15
    · replace hF := (if_neg q2).symm.trans hF
      refine kw_iconst X dX7_in_10 ci_1 ?_
      refine kw_goto X 15 dX7_in_11 (by decide) ?_
      obtain rfl := ti1 hF
      exact hret _ _ _ rfl dX7_in_15
theorem nz_X7_in {p1 : Int32} {p2 : Int32} {p3 : Int32} : narrow .boolean (.int (f_X7_in p1 p2 p3)) = .int (f_X7_in p1 p2 p3) := by
  unfold f_X7_in
  repeat' split
  all_goals rfl
-- X7_isStand
def f_X7_isStand (p1 : Int32) : Int32 :=
  (f_X7_in p1 0 7)
abbrev rm_X7_isStand : Room := { frames := 1, cells := 0, slots := 0, locals := 22 }
set_option maxHeartbeats 4000000 in
set_option maxRecDepth 100000 in
theorem c_X7_isStand (l : Launch) (D : va_G) (cI cC cR : ClassId) (p1 : Int32) (r : Int32) (hF : f_X7_isStand p1 = r) : MPi l yX7_isStand cX7_isStand 1 (some .boolean) rm_X7_isStand D (TY cI cC cR) [.int p1] ([]) (.int r) := by
  refine me_p pn_X7 (Nat.le_of_ble_eq_true rfl) rfl (fun Γ X hret => ?_)
  unfold f_X7_isStand at hF
  refine kw_iload_n X dX7_isStand_0 rfl 0 rfl ?_
  refine kw_iconst X dX7_isStand_1 ci_0 ?_
  refine kw_bipush X dX7_isStand_2 cb_7 ?_
  refine kw_sp X (r := .int (f_X7_in p1 0 7)) (As := [.int p1, .int 0, .int 7]) (st := []) (c_X7_in l D cI cC cR  p1 0 7 (f_X7_in p1 0 7) rfl) vl_X7_22 yv_X7_in ⟨Nat.le_of_ble_eq_true rfl, Nat.le_of_ble_eq_true rfl⟩ ⟨rfl, rfl⟩ ⟨Nat.zero_le _, Nat.zero_le _⟩ [] rfl rfl rfl rfl (Nat.le_of_ble_eq_true rfl) dX7_isStand_4 ?_
  obtain rfl := ti1 hF
  exact hret _ _ _ nz_X7_in dX7_isStand_7
-- X7_isPerson
def f_X7_isPerson (p1 : Int32) : Int32 :=
  (f_X7_in p1 0 11)
abbrev rm_X7_isPerson : Room := { frames := 1, cells := 0, slots := 0, locals := 22 }
set_option maxHeartbeats 4000000 in
set_option maxRecDepth 100000 in
theorem c_X7_isPerson (l : Launch) (D : va_G) (cI cC cR : ClassId) (p1 : Int32) (r : Int32) (hF : f_X7_isPerson p1 = r) : MPi l yX7_isPerson cX7_isPerson 1 (some .boolean) rm_X7_isPerson D (TY cI cC cR) [.int p1] ([]) (.int r) := by
  refine me_p pn_X7 (Nat.le_of_ble_eq_true rfl) rfl (fun Γ X hret => ?_)
  unfold f_X7_isPerson at hF
  refine kw_iload_n X dX7_isPerson_0 rfl 0 rfl ?_
  refine kw_iconst X dX7_isPerson_1 ci_0 ?_
  refine kw_bipush X dX7_isPerson_2 cb_11 ?_
  refine kw_sp X (r := .int (f_X7_in p1 0 11)) (As := [.int p1, .int 0, .int 11]) (st := []) (c_X7_in l D cI cC cR  p1 0 11 (f_X7_in p1 0 11) rfl) vl_X7_22 yv_X7_in ⟨Nat.le_of_ble_eq_true rfl, Nat.le_of_ble_eq_true rfl⟩ ⟨rfl, rfl⟩ ⟨Nat.zero_le _, Nat.zero_le _⟩ [] rfl rfl rfl rfl (Nat.le_of_ble_eq_true rfl) dX7_isPerson_4 ?_
  obtain rfl := ti1 hF
  exact hret _ _ _ nz_X7_in dX7_isPerson_7
-- X7_save
def f_X7_save_L51 (p : Nat → Int32) (w16 : Int32) : Nat → Int32 → (Nat → Int32) → Option ((Nat → Int32))
  | 0, _, _ => none
  | F + 1, v1_28, w29 => (if v1_28 < 986 then ob1 (aget 986 p v1_28) (fun a31 => ob1 (aset 4930 w29 ((986 * w16) + v1_28) a31) (fun m32 => (f_X7_save_L51 p w16 F (v1_28 + 1) m32))) else (some (w29)))
def f_X7_save_L10 : Nat → Int32 → (Nat → Int32) → Option ((Nat → Int32))
  | 0, _, _ => none
  | F + 1, v1_42, w43 => (if v1_42 < 3944 then ob1 (aget 4930 w43 (v1_42 + 986)) (fun a45 => ob1 (aset 4930 w43 v1_42 a45) (fun m46 => (f_X7_save_L10 F (v1_42 + 1) m46))) else (some (w43)))
def f_X7_save (Z : Nat) (p : Nat → Int32) (sv : Nat → Int32) (states : Int32) : Option ((Nat → Int32) × Int32) :=
  (ob2 (if states = 5 then (ob1 (f_X7_save_L10 Z 0 sv) (fun (w41 : Nat → Int32) => (some ((states - 1), w41)))) else (some (states, sv))) (fun (w16 : Int32) (w17 : Nat → Int32) => (ob1 (f_X7_save_L51 p w16 Z 0 w17) (fun (w27 : Nat → Int32) => (some (w27, (w16 + 1)))))))
abbrev rm_X7_save : Room := { frames := 0, cells := 0, slots := 0, locals := 0 }
set_option maxHeartbeats 4000000 in
set_option maxRecDepth 100000 in
theorem c_X7_save (l : Launch) (D : va_G) (cI cC cR : ClassId) (h0 h1 h2 h3 h4 : Nat) (p : Nat → Int32) (sv : Nat → Int32) (asd : Nat → Int32) (tx : Nat → Int32) (states : Int32) (len : Int32) (at_ : Int32) (letter : Int32) (one : Int32) (two : Int32) (number : Int32) (Z : Nat) (sv' : Nat → Int32) (states' : Int32) (hF : f_X7_save Z p sv states = some (sv', states')) : MEq l yX7_save cX7_save 2 none rm_X7_save D (TY cI cC cR) [.ref h0] (wX7 cI h0 h1 h2 h3 h4 p sv asd tx states len at_ letter one two number) (wX7 cI h0 h1 h2 h3 h4 p sv' asd tx states' len at_ letter one two number) none := by
  refine me_v pn_X7 (Nat.le_of_ble_eq_true rfl) rfl (fun Γ X E hret => ?_)
  unfold f_X7_save at hF
  refine kw_aload_n X dX7_save_0 rfl 0 rfl ?_
  refine kw_get X inX7 0 rfl rfl 3 (by decide) rfl gw_701 rfl dX7_save_1 ?_
  refine kw_iconst X dX7_save_4 ci_5 ?_
  obtain ⟨w16, w17, hx18, hF⟩ := ob2_ex hF
  have J : KW Γ 0 0 (wX7 cI h0 h1 h2 h3 h4 p w17 asd tx w16 len at_ letter one two number) [(0, .ref h0)] 49 [] := by
    refine kw_iconst X dX7_save_49 ci_0 ?_
    refine kw_istore_n (lo' := [(0, .ref h0), (1, .int 0)]) X dX7_save_50 rfl (by decide) [1, 0] rfl ?_
    obtain ⟨w27, hx, hF⟩ := ob1_ex hF
    have J : KW Γ 0 0 (wX7 cI h0 h1 h2 h3 h4 p w27 asd tx w16 len at_ letter one two number) [(0, .ref h0)] 85 [] := by
      refine kw_aload_n X dX7_save_85 rfl 0 rfl ?_
      refine kw_dup X dX7_save_86 rfl ?_
      refine kw_get X inX7 0 rfl rfl 3 (by decide) rfl gw_701 rfl dX7_save_87 ?_
      refine kw_iconst X dX7_save_90 ci_1 ?_
      refine kw_iadd X dX7_save_91 ?_
      refine kw_put X E inX7 tyX7 tyX7_ok nmX7 0 rfl rfl 3 (by decide) rfl gw_701 rfl pfd_I (vp_nar_int _) rfl (Nat.le_of_ble_eq_true rfl) (ws' := wX7 cI h0 h1 h2 h3 h4 p w27 asd tx (w16 + 1) len at_ letter one two number) rfl dX7_save_92 ?_
      obtain ⟨rfl, rfl⟩ := si2 hF
      exact hret _ _ dX7_save_95
    have hL51 : ∀ (F : Nat) (v1_28 : Int32) (w29 : Nat → Int32), f_X7_save_L51 p w16 F v1_28 w29 = some (w27) → KW Γ 0 0 (wX7 cI h0 h1 h2 h3 h4 p w29 asd tx w16 len at_ letter one two number) [(0, .ref h0), (1, .int v1_28)] 51 [] := by
      intro F
      induction F with
      | zero => intro v1_28 w29 hF; exact none_some hF
      | succ F ih51 =>
        intro v1_28 w29 hF
        rw [f_X7_save_L51] at hF
        refine kw_iload_n X dX7_save_51 rfl 1 rfl ?_
        refine kw_sipush X dX7_save_52 cs_986 ?_
        refine kw_icmp_ge X 85 dX7_save_55 (by decide) (fun q30 => ?_) (fun q30 => ?_)
        · replace hF := (if_neg q30).symm.trans hF
          refine kw_loc (lo' := [(0, .ref h0)]) [0] rfl ?_
          obtain rfl := si1 hF
          exact J
        · replace hF := (if_pos q30).symm.trans hF
          refine kw_aload_n X dX7_save_58 rfl 0 rfl ?_
          refine kw_get X inX7 0 rfl rfl 1 (by decide) rfl gw_699 rfl dX7_save_59 ?_
          refine kw_sipush X dX7_save_62 cs_986 ?_
          refine kw_aload_n X dX7_save_65 rfl 0 rfl ?_
          refine kw_get X inX7 0 rfl rfl 3 (by decide) rfl gw_701 rfl dX7_save_66 ?_
          refine kw_imul X dX7_save_69 ?_
          refine kw_iload_n X dX7_save_70 rfl 1 rfl ?_
          refine kw_iadd X dX7_save_71 ?_
          refine kw_aload_n X dX7_save_72 rfl 0 rfl ?_
          refine kw_get X inX7 0 rfl rfl 0 (by decide) rfl gw_698 rfl dX7_save_73 ?_
          refine kw_iload_n X dX7_save_76 rfl 1 rfl ?_
          obtain ⟨a31, hx, hF⟩ := ob1_ex hF
          obtain ⟨hin, hx⟩ := aget_ex hx
          refine kw_iald X 1 0 rfl rfl hin hx dX7_save_77 ?_
          obtain ⟨m32, hx, hF⟩ := ob1_ex hF
          obtain ⟨hin, hx⟩ := aset_ex hx
          refine kw_iast X E 2 0 rfl rfl hin (ws' := wX7 cI h0 h1 h2 h3 h4 p m32 asd tx w16 len at_ letter one two number) (by rw [hx]; rfl) dX7_save_78 ?_
          refine kw_iinc (lo' := [(0, .ref h0), (1, .int (v1_28 + 1))]) X dX7_save_79 1 rfl (congrArg (fun w => v1_28 + w) ci_1) (by decide) [1, 0] rfl ?_
          refine kw_goto X 51 dX7_save_82 (by decide) ?_
          exact ih51 _ _ hF
    exact hL51 Z _ _ hx
  replace hF := hx18
  refine kw_icmp_ne X 49 dX7_save_5 (by decide) (fun q1 => ?_) (fun q1 => ?_)
  · replace hF := (if_neg q1).symm.trans hF
    obtain ⟨rfl, rfl⟩ := si2 hF
    exact J
  · replace hF := (if_pos q1).symm.trans hF
    refine kw_iconst X dX7_save_8 ci_0 ?_
    refine kw_istore_n (lo' := [(0, .ref h0), (1, .int 0)]) X dX7_save_9 rfl (by decide) [1, 0] rfl ?_
    obtain ⟨w41, hx, hF⟩ := ob1_ex hF
    have J : KW Γ 0 0 (wX7 cI h0 h1 h2 h3 h4 p w41 asd tx states len at_ letter one two number) [(0, .ref h0)] 39 [] := by
      refine kw_aload_n X dX7_save_39 rfl 0 rfl ?_
      refine kw_dup X dX7_save_40 rfl ?_
      refine kw_get X inX7 0 rfl rfl 3 (by decide) rfl gw_701 rfl dX7_save_41 ?_
      refine kw_iconst X dX7_save_44 ci_1 ?_
      refine kw_isub X dX7_save_45 ?_
      refine kw_put X E inX7 tyX7 tyX7_ok nmX7 0 rfl rfl 3 (by decide) rfl gw_701 rfl pfd_I (vp_nar_int _) rfl (Nat.le_of_ble_eq_true rfl) (ws' := wX7 cI h0 h1 h2 h3 h4 p w41 asd tx (states - 1) len at_ letter one two number) rfl dX7_save_46 ?_
      obtain ⟨rfl, rfl⟩ := si2 hF
      exact J
    have hL10 : ∀ (F : Nat) (v1_42 : Int32) (w43 : Nat → Int32), f_X7_save_L10 F v1_42 w43 = some (w41) → KW Γ 0 0 (wX7 cI h0 h1 h2 h3 h4 p w43 asd tx states len at_ letter one two number) [(0, .ref h0), (1, .int v1_42)] 10 [] := by
      intro F
      induction F with
      | zero => intro v1_42 w43 hF; exact none_some hF
      | succ F ih10 =>
        intro v1_42 w43 hF
        rw [f_X7_save_L10] at hF
        refine kw_iload_n X dX7_save_10 rfl 1 rfl ?_
        refine kw_sipush X dX7_save_11 cs_3944 ?_
        refine kw_icmp_ge X 39 dX7_save_14 (by decide) (fun q44 => ?_) (fun q44 => ?_)
        · replace hF := (if_neg q44).symm.trans hF
          refine kw_loc (lo' := [(0, .ref h0)]) [0] rfl ?_
          obtain rfl := si1 hF
          exact J
        · replace hF := (if_pos q44).symm.trans hF
          refine kw_aload_n X dX7_save_17 rfl 0 rfl ?_
          refine kw_get X inX7 0 rfl rfl 1 (by decide) rfl gw_699 rfl dX7_save_18 ?_
          refine kw_iload_n X dX7_save_21 rfl 1 rfl ?_
          refine kw_aload_n X dX7_save_22 rfl 0 rfl ?_
          refine kw_get X inX7 0 rfl rfl 1 (by decide) rfl gw_699 rfl dX7_save_23 ?_
          refine kw_iload_n X dX7_save_26 rfl 1 rfl ?_
          refine kw_sipush X dX7_save_27 cs_986 ?_
          refine kw_iadd X dX7_save_30 ?_
          obtain ⟨a45, hx, hF⟩ := ob1_ex hF
          obtain ⟨hin, hx⟩ := aget_ex hx
          refine kw_iald X 2 0 rfl rfl hin hx dX7_save_31 ?_
          obtain ⟨m46, hx, hF⟩ := ob1_ex hF
          obtain ⟨hin, hx⟩ := aset_ex hx
          refine kw_iast X E 2 0 rfl rfl hin (ws' := wX7 cI h0 h1 h2 h3 h4 p m46 asd tx states len at_ letter one two number) (by rw [hx]; rfl) dX7_save_32 ?_
          refine kw_iinc (lo' := [(0, .ref h0), (1, .int (v1_42 + 1))]) X dX7_save_33 1 rfl (congrArg (fun w => v1_42 + w) ci_1) (by decide) [1, 0] rfl ?_
          refine kw_goto X 10 dX7_save_36 (by decide) ?_
          exact ih10 _ _ hF
    exact hL10 Z _ _ hx
-- X7_isAt
def f_X7_isAt (p : Nat → Int32) (p1 : Int32) (p2 : Int32) (p3 : Int32) : Option (Int32) :=
  ob1 (aget 986 p (1 + p1)) (fun a1 => (if a1 = p2 then (if 2 < p2 then (some 1) else ob1 (aget 986 p (61 + p1)) (fun a4 => (if a4 = p3 then (some 1) else (some 0)))) else (some 0)))
abbrev rm_X7_isAt : Room := { frames := 0, cells := 0, slots := 0, locals := 0 }
set_option maxHeartbeats 4000000 in
set_option maxRecDepth 100000 in
theorem c_X7_isAt (l : Launch) (D : va_G) (cI cC cR : ClassId) (h0 h1 h2 h3 h4 : Nat) (p : Nat → Int32) (sv : Nat → Int32) (asd : Nat → Int32) (tx : Nat → Int32) (states : Int32) (len : Int32) (at_ : Int32) (letter : Int32) (one : Int32) (two : Int32) (number : Int32) (p1 : Int32) (p2 : Int32) (p3 : Int32) (r : Int32) (hF : f_X7_isAt p p1 p2 p3 = some r) : MPi l yX7_isAt cX7_isAt 4 (some .boolean) rm_X7_isAt D (TY cI cC cR) [.ref h0, .int p1, .int p2, .int p3] (wX7 cI h0 h1 h2 h3 h4 p sv asd tx states len at_ letter one two number) (.int r) := by
  refine me_p pn_X7 (Nat.le_of_ble_eq_true rfl) rfl (fun Γ X hret => ?_)
  unfold f_X7_isAt at hF
  refine kw_aload_n X dX7_isAt_0 rfl 0 rfl ?_
  refine kw_get X inX7 0 rfl rfl 0 (by decide) rfl gw_698 rfl dX7_isAt_1 ?_
  refine kw_iconst X dX7_isAt_4 ci_1 ?_
  refine kw_iload_n X dX7_isAt_5 rfl 1 rfl ?_
  refine kw_iadd X dX7_isAt_6 ?_
  obtain ⟨a1, hx, hF⟩ := ob1_ex hF
  obtain ⟨hin, hx⟩ := aget_ex hx
  refine kw_iald X 1 0 rfl rfl hin hx dX7_isAt_7 ?_
  refine kw_iload_n X dX7_isAt_8 rfl 2 rfl ?_
  refine kw_icmp_ne X 34 dX7_isAt_9 (by decide) (fun q2 => ?_) (fun q2 => ?_)
  · replace hF := (if_neg q2).symm.trans hF
    refine kw_iconst X dX7_isAt_34 ci_0 ?_
    obtain rfl := si1 hF
    exact hret _ _ _ rfl dX7_isAt_35
  · replace hF := (if_pos q2).symm.trans hF
    refine kw_iload_n X dX7_isAt_12 rfl 2 rfl ?_
    refine kw_iconst X dX7_isAt_13 ci_2 ?_
    refine kw_icmp_gt X 30 dX7_isAt_14 (by decide) (fun q3 => ?_) (fun q3 => ?_)
    · replace hF := (if_pos q3).symm.trans hF
      refine kw_iconst X dX7_isAt_30 ci_1 ?_
      refine kw_goto X 35 dX7_isAt_31 (by decide) ?_
      obtain rfl := si1 hF
      exact hret _ _ _ rfl dX7_isAt_35
    · replace hF := (if_neg q3).symm.trans hF
      refine kw_aload_n X dX7_isAt_17 rfl 0 rfl ?_
      refine kw_get X inX7 0 rfl rfl 0 (by decide) rfl gw_698 rfl dX7_isAt_18 ?_
      refine kw_bipush X dX7_isAt_21 cb_61 ?_
      refine kw_iload_n X dX7_isAt_23 rfl 1 rfl ?_
      refine kw_iadd X dX7_isAt_24 ?_
      obtain ⟨a4, hx, hF⟩ := ob1_ex hF
      obtain ⟨hin, hx⟩ := aget_ex hx
      refine kw_iald X 1 0 rfl rfl hin hx dX7_isAt_25 ?_
      refine kw_iload_n X dX7_isAt_26 rfl 3 rfl ?_
      refine kw_icmp_ne X 34 dX7_isAt_27 (by decide) (fun q5 => ?_) (fun q5 => ?_)
      · replace hF := (if_neg q5).symm.trans hF
        refine kw_iconst X dX7_isAt_34 ci_0 ?_
        obtain rfl := si1 hF
        exact hret _ _ _ rfl dX7_isAt_35
      · replace hF := (if_pos q5).symm.trans hF
        refine kw_iconst X dX7_isAt_30 ci_1 ?_
        refine kw_goto X 35 dX7_isAt_31 (by decide) ?_
        obtain rfl := si1 hF
        exact hret _ _ _ rfl dX7_isAt_35
-- X7_manyAt
def f_X7_manyAt_L5 (p : Nat → Int32) (p1 : Int32) (p2 : Int32) : Nat → Int32 → Int32 → Option (Int32)
  | 0, _, _ => none
  | F + 1, v3_16, v4_17 => ob1 (aget 986 p 0) (fun a18 => (if v4_17 < a18 then (ob1 (f_X7_isAt p v4_17 p1 p2) (fun (b20 : Int32) => (pl1 (if b20 = 0 then 0 else 1) (fun (x22 : Int32) => (f_X7_manyAt_L5 p p1 p2 F (v3_16 + x22) (v4_17 + 1)))))) else (some (v3_16))))
def f_X7_manyAt (Z : Nat) (p : Nat → Int32) (p1 : Int32) (p2 : Int32) : Option (Int32) :=
  (ob1 (f_X7_manyAt_L5 p p1 p2 Z 0 0) (fun (e15 : Int32) => (some e15)))
abbrev rm_X7_manyAt : Room := { frames := 1, cells := 0, slots := 0, locals := 23 }
set_option maxHeartbeats 4000000 in
set_option maxRecDepth 100000 in
theorem c_X7_manyAt (l : Launch) (D : va_G) (cI cC cR : ClassId) (h0 h1 h2 h3 h4 : Nat) (p : Nat → Int32) (sv : Nat → Int32) (asd : Nat → Int32) (tx : Nat → Int32) (states : Int32) (len : Int32) (at_ : Int32) (letter : Int32) (one : Int32) (two : Int32) (number : Int32) (p1 : Int32) (p2 : Int32) (Z : Nat) (r : Int32) (hF : f_X7_manyAt Z p p1 p2 = some r) : MPi l yX7_manyAt cX7_manyAt 5 (some .int) rm_X7_manyAt D (TY cI cC cR) [.ref h0, .int p1, .int p2] (wX7 cI h0 h1 h2 h3 h4 p sv asd tx states len at_ letter one two number) (.int r) := by
  refine me_p pn_X7 (Nat.le_of_ble_eq_true rfl) rfl (fun Γ X hret => ?_)
  unfold f_X7_manyAt at hF
  refine kw_iconst X dX7_manyAt_0 ci_0 ?_
  refine kw_istore_n (lo' := [(0, .ref h0), (1, .int p1), (2, .int p2), (3, .int 0)]) X dX7_manyAt_1 rfl (by decide) [1, 2, 3, 0] rfl ?_
  refine kw_iconst X dX7_manyAt_2 ci_0 ?_
  refine kw_istore (lo' := [(0, .ref h0), (1, .int p1), (2, .int p2), (3, .int 0), (4, .int 0)]) X dX7_manyAt_3 (by decide) [1, 2, 3, 4, 0] rfl ?_
  obtain ⟨e15, hx, hF⟩ := ob1_ex hF
  have J : KW Γ 0 0 (wX7 cI h0 h1 h2 h3 h4 p sv asd tx states len at_ letter one two number) [(3, .int e15)] 41 [] := by
    refine kw_iload_n X dX7_manyAt_41 rfl 0 rfl ?_
    obtain rfl := si1 hF
    exact hret _ _ _ (vp_nar_int _) dX7_manyAt_42
  have hL5 : ∀ (F : Nat) (v3_16 : Int32) (v4_17 : Int32), f_X7_manyAt_L5 p p1 p2 F v3_16 v4_17 = some (e15) → KW Γ 0 0 (wX7 cI h0 h1 h2 h3 h4 p sv asd tx states len at_ letter one two number) [(0, .ref h0), (1, .int p1), (2, .int p2), (3, .int v3_16), (4, .int v4_17)] 5 [] := by
    intro F
    induction F with
    | zero => intro v3_16 v4_17 hF; exact none_some hF
    | succ F ih5 =>
      intro v3_16 v4_17 hF
      rw [f_X7_manyAt_L5] at hF
      refine kw_iload X dX7_manyAt_5 4 rfl ?_
      refine kw_aload_n X dX7_manyAt_7 rfl 0 rfl ?_
      refine kw_get X inX7 0 rfl rfl 0 (by decide) rfl gw_698 rfl dX7_manyAt_8 ?_
      refine kw_iconst X dX7_manyAt_11 ci_0 ?_
      obtain ⟨a18, hx, hF⟩ := ob1_ex hF
      obtain ⟨hin, hx⟩ := aget_ex hx
      refine kw_iald X 1 0 rfl rfl hin hx dX7_manyAt_12 ?_
      refine kw_icmp_ge X 41 dX7_manyAt_13 (by decide) (fun q19 => ?_) (fun q19 => ?_)
      · replace hF := (if_neg q19).symm.trans hF
        refine kw_loc (lo' := [(3, .int v3_16)]) [3] rfl ?_
        obtain rfl := si1 hF
        exact J
      · replace hF := (if_pos q19).symm.trans hF
        refine kw_iload_n X dX7_manyAt_16 rfl 3 rfl ?_
        refine kw_aload_n X dX7_manyAt_17 rfl 0 rfl ?_
        refine kw_iload X dX7_manyAt_18 4 rfl ?_
        refine kw_iload_n X dX7_manyAt_20 rfl 1 rfl ?_
        refine kw_iload_n X dX7_manyAt_21 rfl 2 rfl ?_
        obtain ⟨b20, hx20, hF⟩ := ob1_ex hF
        refine kw_ap X (r := .int b20) (As := [.int v4_17, .int p1, .int p2]) (st := [.int v3_16]) (c_X7_isAt l D cI cC cR h0 h1 h2 h3 h4 p sv asd tx states len at_ letter one two number v4_17 p1 p2 b20 hx20) vl_X7_30 yv_X7_isAt ⟨Nat.le_of_ble_eq_true rfl, Nat.le_of_ble_eq_true rfl⟩ ⟨rfl, rfl⟩ ⟨Nat.zero_le _, Nat.zero_le _⟩ 0 rfl rfl rfl rfl (Nat.le_of_ble_eq_true rfl) dX7_manyAt_22 ?_
        obtain ⟨x22, hx23, hF⟩ := pl1_ex hF
        have J : KW Γ 0 0 (wX7 cI h0 h1 h2 h3 h4 p sv asd tx states len at_ letter one two number) [(0, .ref h0), (1, .int p1), (2, .int p2), (4, .int v4_17)] 33 [.int x22, .int v3_16] := by
          refine kw_iadd X dX7_manyAt_33 ?_
          refine kw_istore_n (lo' := [(0, .ref h0), (1, .int p1), (2, .int p2), (3, .int (v3_16 + x22)), (4, .int v4_17)]) X dX7_manyAt_34 rfl (by decide) [1, 2, 3, 0, 4] rfl ?_
          refine kw_iinc (lo' := [(0, .ref h0), (1, .int p1), (2, .int p2), (3, .int (v3_16 + x22)), (4, .int (v4_17 + 1))]) X dX7_manyAt_35 4 rfl (congrArg (fun w => v4_17 + w) ci_1) (by decide) [1, 2, 3, 4, 0] rfl ?_
          refine kw_goto X 5 dX7_manyAt_38 (by decide) ?_
          exact ih5 _ _ hF
        replace hF := hx23
        refine kw_if_eq X 32 dX7_manyAt_25 (by decide) (fun q21 => ?_) (fun q21 => ?_)
        · replace hF := (if_pos q21).symm.trans hF
          refine kw_iconst X dX7_manyAt_32 ci_0 ?_
          refine kw_loc (lo' := [(0, .ref h0), (1, .int p1), (2, .int p2), (4, .int v4_17)]) [0, 1, 2, 4] rfl ?_
          obtain rfl := ti1 hF
          exact J
        · replace hF := (if_neg q21).symm.trans hF
          refine kw_iconst X dX7_manyAt_28 ci_1 ?_
          refine kw_goto X 33 dX7_manyAt_29 (by decide) ?_
          refine kw_loc (lo' := [(0, .ref h0), (1, .int p1), (2, .int p2), (4, .int v4_17)]) [0, 1, 2, 4] rfl ?_
          obtain rfl := ti1 hF
          exact J
  exact hL5 Z _ _ hx
-- X7_manyIn
def f_X7_manyIn_L4 (p : Nat → Int32) (p1 : Int32) : Nat → Int32 → Int32 → Option (Int32)
  | 0, _, _ => none
  | F + 1, v2_16, v3_17 => ob1 (aget 986 p 0) (fun a18 => (if v3_17 < a18 then ob1 (aget 986 p (1 + v3_17)) (fun a20 => (pl1 (if a20 = p1 then 1 else 0) (fun (x22 : Int32) => (f_X7_manyIn_L4 p p1 F (v2_16 + x22) (v3_17 + 1))))) else (some (v2_16))))
def f_X7_manyIn (Z : Nat) (p : Nat → Int32) (p1 : Int32) : Option (Int32) :=
  (ob1 (f_X7_manyIn_L4 p p1 Z 0 0) (fun (e15 : Int32) => (some e15)))
abbrev rm_X7_manyIn : Room := { frames := 0, cells := 0, slots := 0, locals := 0 }
set_option maxHeartbeats 4000000 in
set_option maxRecDepth 100000 in
theorem c_X7_manyIn (l : Launch) (D : va_G) (cI cC cR : ClassId) (h0 h1 h2 h3 h4 : Nat) (p : Nat → Int32) (sv : Nat → Int32) (asd : Nat → Int32) (tx : Nat → Int32) (states : Int32) (len : Int32) (at_ : Int32) (letter : Int32) (one : Int32) (two : Int32) (number : Int32) (p1 : Int32) (Z : Nat) (r : Int32) (hF : f_X7_manyIn Z p p1 = some r) : MPi l yX7_manyIn cX7_manyIn 4 (some .int) rm_X7_manyIn D (TY cI cC cR) [.ref h0, .int p1] (wX7 cI h0 h1 h2 h3 h4 p sv asd tx states len at_ letter one two number) (.int r) := by
  refine me_p pn_X7 (Nat.le_of_ble_eq_true rfl) rfl (fun Γ X hret => ?_)
  unfold f_X7_manyIn at hF
  refine kw_iconst X dX7_manyIn_0 ci_0 ?_
  refine kw_istore_n (lo' := [(0, .ref h0), (1, .int p1), (2, .int 0)]) X dX7_manyIn_1 rfl (by decide) [1, 2, 0] rfl ?_
  refine kw_iconst X dX7_manyIn_2 ci_0 ?_
  refine kw_istore_n (lo' := [(0, .ref h0), (1, .int p1), (2, .int 0), (3, .int 0)]) X dX7_manyIn_3 rfl (by decide) [1, 2, 3, 0] rfl ?_
  obtain ⟨e15, hx, hF⟩ := ob1_ex hF
  have J : KW Γ 0 0 (wX7 cI h0 h1 h2 h3 h4 p sv asd tx states len at_ letter one two number) [(2, .int e15)] 40 [] := by
    refine kw_iload_n X dX7_manyIn_40 rfl 0 rfl ?_
    obtain rfl := si1 hF
    exact hret _ _ _ (vp_nar_int _) dX7_manyIn_41
  have hL4 : ∀ (F : Nat) (v2_16 : Int32) (v3_17 : Int32), f_X7_manyIn_L4 p p1 F v2_16 v3_17 = some (e15) → KW Γ 0 0 (wX7 cI h0 h1 h2 h3 h4 p sv asd tx states len at_ letter one two number) [(0, .ref h0), (1, .int p1), (2, .int v2_16), (3, .int v3_17)] 4 [] := by
    intro F
    induction F with
    | zero => intro v2_16 v3_17 hF; exact none_some hF
    | succ F ih4 =>
      intro v2_16 v3_17 hF
      rw [f_X7_manyIn_L4] at hF
      refine kw_iload_n X dX7_manyIn_4 rfl 3 rfl ?_
      refine kw_aload_n X dX7_manyIn_5 rfl 0 rfl ?_
      refine kw_get X inX7 0 rfl rfl 0 (by decide) rfl gw_698 rfl dX7_manyIn_6 ?_
      refine kw_iconst X dX7_manyIn_9 ci_0 ?_
      obtain ⟨a18, hx, hF⟩ := ob1_ex hF
      obtain ⟨hin, hx⟩ := aget_ex hx
      refine kw_iald X 1 0 rfl rfl hin hx dX7_manyIn_10 ?_
      refine kw_icmp_ge X 40 dX7_manyIn_11 (by decide) (fun q19 => ?_) (fun q19 => ?_)
      · replace hF := (if_neg q19).symm.trans hF
        refine kw_loc (lo' := [(2, .int v2_16)]) [2] rfl ?_
        obtain rfl := si1 hF
        exact J
      · replace hF := (if_pos q19).symm.trans hF
        refine kw_iload_n X dX7_manyIn_14 rfl 2 rfl ?_
        refine kw_aload_n X dX7_manyIn_15 rfl 0 rfl ?_
        refine kw_get X inX7 0 rfl rfl 0 (by decide) rfl gw_698 rfl dX7_manyIn_16 ?_
        refine kw_iconst X dX7_manyIn_19 ci_1 ?_
        refine kw_iload_n X dX7_manyIn_20 rfl 3 rfl ?_
        refine kw_iadd X dX7_manyIn_21 ?_
        obtain ⟨a20, hx, hF⟩ := ob1_ex hF
        obtain ⟨hin, hx⟩ := aget_ex hx
        refine kw_iald X 1 0 rfl rfl hin hx dX7_manyIn_22 ?_
        refine kw_iload_n X dX7_manyIn_23 rfl 1 rfl ?_
        obtain ⟨x22, hx23, hF⟩ := pl1_ex hF
        have J : KW Γ 0 0 (wX7 cI h0 h1 h2 h3 h4 p sv asd tx states len at_ letter one two number) [(0, .ref h0), (1, .int p1), (3, .int v3_17)] 32 [.int x22, .int v2_16] := by
          refine kw_iadd X dX7_manyIn_32 ?_
          refine kw_istore_n (lo' := [(0, .ref h0), (1, .int p1), (2, .int (v2_16 + x22)), (3, .int v3_17)]) X dX7_manyIn_33 rfl (by decide) [1, 2, 0, 3] rfl ?_
          refine kw_iinc (lo' := [(0, .ref h0), (1, .int p1), (2, .int (v2_16 + x22)), (3, .int (v3_17 + 1))]) X dX7_manyIn_34 3 rfl (congrArg (fun w => v3_17 + w) ci_1) (by decide) [1, 2, 3, 0] rfl ?_
          refine kw_goto X 4 dX7_manyIn_37 (by decide) ?_
          exact ih4 _ _ hF
        replace hF := hx23
        refine kw_icmp_ne X 31 dX7_manyIn_24 (by decide) (fun q21 => ?_) (fun q21 => ?_)
        · replace hF := (if_neg q21).symm.trans hF
          refine kw_iconst X dX7_manyIn_31 ci_0 ?_
          refine kw_loc (lo' := [(0, .ref h0), (1, .int p1), (3, .int v3_17)]) [0, 1, 3] rfl ?_
          obtain rfl := ti1 hF
          exact J
        · replace hF := (if_pos q21).symm.trans hF
          refine kw_iconst X dX7_manyIn_27 ci_1 ?_
          refine kw_goto X 32 dX7_manyIn_28 (by decide) ?_
          refine kw_loc (lo' := [(0, .ref h0), (1, .int p1), (3, .int v3_17)]) [0, 1, 3] rfl ?_
          obtain rfl := ti1 hF
          exact J
  exact hL4 Z _ _ hx
-- X7_isBroken
def f_X7_isBroken (p : Nat → Int32) (p1 : Int32) : Option (Int32) :=
  ob1 (aget 986 p (121 + p1)) (fun a1 => (if a1 < 32 then (some 0) else (some 1)))
abbrev rm_X7_isBroken : Room := { frames := 0, cells := 0, slots := 0, locals := 0 }
set_option maxHeartbeats 4000000 in
set_option maxRecDepth 100000 in
theorem c_X7_isBroken (l : Launch) (D : va_G) (cI cC cR : ClassId) (h0 h1 h2 h3 h4 : Nat) (p : Nat → Int32) (sv : Nat → Int32) (asd : Nat → Int32) (tx : Nat → Int32) (states : Int32) (len : Int32) (at_ : Int32) (letter : Int32) (one : Int32) (two : Int32) (number : Int32) (p1 : Int32) (r : Int32) (hF : f_X7_isBroken p p1 = some r) : MPi l yX7_isBroken cX7_isBroken 2 (some .boolean) rm_X7_isBroken D (TY cI cC cR) [.ref h0, .int p1] (wX7 cI h0 h1 h2 h3 h4 p sv asd tx states len at_ letter one two number) (.int r) := by
  refine me_p pn_X7 (Nat.le_of_ble_eq_true rfl) rfl (fun Γ X hret => ?_)
  unfold f_X7_isBroken at hF
  refine kw_aload_n X dX7_isBroken_0 rfl 0 rfl ?_
  refine kw_get X inX7 0 rfl rfl 0 (by decide) rfl gw_698 rfl dX7_isBroken_1 ?_
  refine kw_bipush X dX7_isBroken_4 cb_121 ?_
  refine kw_iload_n X dX7_isBroken_6 rfl 1 rfl ?_
  refine kw_iadd X dX7_isBroken_7 ?_
  obtain ⟨a1, hx, hF⟩ := ob1_ex hF
  obtain ⟨hin, hx⟩ := aget_ex hx
  refine kw_iald X 1 0 rfl rfl hin hx dX7_isBroken_8 ?_
  refine kw_bipush X dX7_isBroken_9 cb_32 ?_
  refine kw_icmp_lt X 18 dX7_isBroken_11 (by decide) (fun q2 => ?_) (fun q2 => ?_)
  · replace hF := (if_pos q2).symm.trans hF
    refine kw_iconst X dX7_isBroken_18 ci_0 ?_
    obtain rfl := si1 hF
    exact hret _ _ _ rfl dX7_isBroken_19
  · replace hF := (if_neg q2).symm.trans hF
    refine kw_iconst X dX7_isBroken_14 ci_1 ?_
    refine kw_goto X 19 dX7_isBroken_15 (by decide) ?_
    obtain rfl := si1 hF
    exact hret _ _ _ rfl dX7_isBroken_19
-- X7_brokenAt
def f_X7_brokenAt_L5 (p : Nat → Int32) (p1 : Int32) (p2 : Int32) : Nat → Int32 → Int32 → Option (Int32)
  | 0, _, _ => none
  | F + 1, v3_26, v4_27 => ob1 (aget 986 p 0) (fun a28 => (if v4_27 < a28 then (ob1 (f_X7_isAt p v4_27 p1 p2) (fun (b30 : Int32) => (ob1 (if b30 = 0 then (some 0) else (ob1 (f_X7_isBroken p v4_27) (fun (b37 : Int32) => (if b37 = 0 then (some 0) else (some 1))))) (fun (x35 : Int32) => (f_X7_brokenAt_L5 p p1 p2 F (v3_26 + x35) (v4_27 + 1)))))) else (some (v3_26))))
def f_X7_brokenAt (Z : Nat) (p : Nat → Int32) (p1 : Int32) (p2 : Int32) : Option (Int32) :=
  (ob1 (f_X7_brokenAt_L5 p p1 p2 Z 0 0) (fun (e25 : Int32) => (some e25)))
abbrev rm_X7_brokenAt : Room := { frames := 1, cells := 0, slots := 0, locals := 23 }
set_option maxHeartbeats 4000000 in
set_option maxRecDepth 100000 in
theorem c_X7_brokenAt (l : Launch) (D : va_G) (cI cC cR : ClassId) (h0 h1 h2 h3 h4 : Nat) (p : Nat → Int32) (sv : Nat → Int32) (asd : Nat → Int32) (tx : Nat → Int32) (states : Int32) (len : Int32) (at_ : Int32) (letter : Int32) (one : Int32) (two : Int32) (number : Int32) (p1 : Int32) (p2 : Int32) (Z : Nat) (r : Int32) (hF : f_X7_brokenAt Z p p1 p2 = some r) : MPi l yX7_brokenAt cX7_brokenAt 5 (some .int) rm_X7_brokenAt D (TY cI cC cR) [.ref h0, .int p1, .int p2] (wX7 cI h0 h1 h2 h3 h4 p sv asd tx states len at_ letter one two number) (.int r) := by
  refine me_p pn_X7 (Nat.le_of_ble_eq_true rfl) rfl (fun Γ X hret => ?_)
  unfold f_X7_brokenAt at hF
  refine kw_iconst X dX7_brokenAt_0 ci_0 ?_
  refine kw_istore_n (lo' := [(0, .ref h0), (1, .int p1), (2, .int p2), (3, .int 0)]) X dX7_brokenAt_1 rfl (by decide) [1, 2, 3, 0] rfl ?_
  refine kw_iconst X dX7_brokenAt_2 ci_0 ?_
  refine kw_istore (lo' := [(0, .ref h0), (1, .int p1), (2, .int p2), (3, .int 0), (4, .int 0)]) X dX7_brokenAt_3 (by decide) [1, 2, 3, 4, 0] rfl ?_
  obtain ⟨e25, hx, hF⟩ := ob1_ex hF
  have J : KW Γ 0 0 (wX7 cI h0 h1 h2 h3 h4 p sv asd tx states len at_ letter one two number) [(3, .int e25)] 50 [] := by
    refine kw_iload_n X dX7_brokenAt_50 rfl 0 rfl ?_
    obtain rfl := si1 hF
    exact hret _ _ _ (vp_nar_int _) dX7_brokenAt_51
  have hL5 : ∀ (F : Nat) (v3_26 : Int32) (v4_27 : Int32), f_X7_brokenAt_L5 p p1 p2 F v3_26 v4_27 = some (e25) → KW Γ 0 0 (wX7 cI h0 h1 h2 h3 h4 p sv asd tx states len at_ letter one two number) [(0, .ref h0), (1, .int p1), (2, .int p2), (3, .int v3_26), (4, .int v4_27)] 5 [] := by
    intro F
    induction F with
    | zero => intro v3_26 v4_27 hF; exact none_some hF
    | succ F ih5 =>
      intro v3_26 v4_27 hF
      rw [f_X7_brokenAt_L5] at hF
      refine kw_iload X dX7_brokenAt_5 4 rfl ?_
      refine kw_aload_n X dX7_brokenAt_7 rfl 0 rfl ?_
      refine kw_get X inX7 0 rfl rfl 0 (by decide) rfl gw_698 rfl dX7_brokenAt_8 ?_
      refine kw_iconst X dX7_brokenAt_11 ci_0 ?_
      obtain ⟨a28, hx, hF⟩ := ob1_ex hF
      obtain ⟨hin, hx⟩ := aget_ex hx
      refine kw_iald X 1 0 rfl rfl hin hx dX7_brokenAt_12 ?_
      refine kw_icmp_ge X 50 dX7_brokenAt_13 (by decide) (fun q29 => ?_) (fun q29 => ?_)
      · replace hF := (if_neg q29).symm.trans hF
        refine kw_loc (lo' := [(3, .int v3_26)]) [3] rfl ?_
        obtain rfl := si1 hF
        exact J
      · replace hF := (if_pos q29).symm.trans hF
        refine kw_iload_n X dX7_brokenAt_16 rfl 3 rfl ?_
        refine kw_aload_n X dX7_brokenAt_17 rfl 0 rfl ?_
        refine kw_iload X dX7_brokenAt_18 4 rfl ?_
        refine kw_iload_n X dX7_brokenAt_20 rfl 1 rfl ?_
        refine kw_iload_n X dX7_brokenAt_21 rfl 2 rfl ?_
        obtain ⟨b30, hx30, hF⟩ := ob1_ex hF
        refine kw_ap X (r := .int b30) (As := [.int v4_27, .int p1, .int p2]) (st := [.int v3_26]) (c_X7_isAt l D cI cC cR h0 h1 h2 h3 h4 p sv asd tx states len at_ letter one two number v4_27 p1 p2 b30 hx30) vl_X7_30 yv_X7_isAt ⟨Nat.le_of_ble_eq_true rfl, Nat.le_of_ble_eq_true rfl⟩ ⟨rfl, rfl⟩ ⟨Nat.zero_le _, Nat.zero_le _⟩ 0 rfl rfl rfl rfl (Nat.le_of_ble_eq_true rfl) dX7_brokenAt_22 ?_
        obtain ⟨x35, hx36, hF⟩ := ob1_ex hF
        have J : KW Γ 0 0 (wX7 cI h0 h1 h2 h3 h4 p sv asd tx states len at_ letter one two number) [(0, .ref h0), (1, .int p1), (2, .int p2), (4, .int v4_27)] 42 [.int x35, .int v3_26] := by
          refine kw_iadd X dX7_brokenAt_42 ?_
          refine kw_istore_n (lo' := [(0, .ref h0), (1, .int p1), (2, .int p2), (3, .int (v3_26 + x35)), (4, .int v4_27)]) X dX7_brokenAt_43 rfl (by decide) [1, 2, 3, 0, 4] rfl ?_
          refine kw_iinc (lo' := [(0, .ref h0), (1, .int p1), (2, .int p2), (3, .int (v3_26 + x35)), (4, .int (v4_27 + 1))]) X dX7_brokenAt_44 4 rfl (congrArg (fun w => v4_27 + w) ci_1) (by decide) [1, 2, 3, 4, 0] rfl ?_
          refine kw_goto X 5 dX7_brokenAt_47 (by decide) ?_
          exact ih5 _ _ hF
        replace hF := hx36
        refine kw_if_eq X 41 dX7_brokenAt_25 (by decide) (fun q31 => ?_) (fun q31 => ?_)
        · replace hF := (if_pos q31).symm.trans hF
          refine kw_iconst X dX7_brokenAt_41 ci_0 ?_
          refine kw_loc (lo' := [(0, .ref h0), (1, .int p1), (2, .int p2), (4, .int v4_27)]) [0, 1, 2, 4] rfl ?_
          obtain rfl := si1 hF
          exact J
        · replace hF := (if_neg q31).symm.trans hF
          refine kw_aload_n X dX7_brokenAt_28 rfl 0 rfl ?_
          refine kw_iload X dX7_brokenAt_29 4 rfl ?_
          obtain ⟨b37, hx37, hF⟩ := ob1_ex hF
          refine kw_ap X (r := .int b37) (As := [.int v4_27]) (st := [.int v3_26]) (c_X7_isBroken l D cI cC cR h0 h1 h2 h3 h4 p sv asd tx states len at_ letter one two number v4_27 b37 hx37) vl_X7_33 yv_X7_isBroken ⟨Nat.le_of_ble_eq_true rfl, Nat.le_of_ble_eq_true rfl⟩ ⟨rfl, rfl⟩ ⟨Nat.zero_le _, Nat.zero_le _⟩ 0 rfl rfl rfl rfl (Nat.le_of_ble_eq_true rfl) dX7_brokenAt_31 ?_
          refine kw_if_eq X 41 dX7_brokenAt_34 (by decide) (fun q38 => ?_) (fun q38 => ?_)
          · replace hF := (if_pos q38).symm.trans hF
            refine kw_iconst X dX7_brokenAt_41 ci_0 ?_
            refine kw_loc (lo' := [(0, .ref h0), (1, .int p1), (2, .int p2), (4, .int v4_27)]) [0, 1, 2, 4] rfl ?_
            obtain rfl := si1 hF
            exact J
          · replace hF := (if_neg q38).symm.trans hF
            refine kw_iconst X dX7_brokenAt_37 ci_1 ?_
            refine kw_goto X 42 dX7_brokenAt_38 (by decide) ?_
            refine kw_loc (lo' := [(0, .ref h0), (1, .int p1), (2, .int p2), (4, .int v4_27)]) [0, 1, 2, 4] rfl ?_
            obtain rfl := si1 hF
            exact J
  exact hL5 Z _ _ hx
-- X7_goes
def f_X7_goes (p : Nat → Int32) (p1 : Int32) (p2 : Int32) (p3 : Int32) : Option ((Nat → Int32)) :=
  ob1 (aset 986 p (1 + p1) p2) (fun m1 => ob1 (aset 986 m1 (61 + p1) p3) (fun m2 => (some m2)))
abbrev rm_X7_goes : Room := { frames := 0, cells := 0, slots := 0, locals := 0 }
set_option maxHeartbeats 4000000 in
set_option maxRecDepth 100000 in
theorem c_X7_goes (l : Launch) (D : va_G) (cI cC cR : ClassId) (h0 h1 h2 h3 h4 : Nat) (p : Nat → Int32) (sv : Nat → Int32) (asd : Nat → Int32) (tx : Nat → Int32) (states : Int32) (len : Int32) (at_ : Int32) (letter : Int32) (one : Int32) (two : Int32) (number : Int32) (p1 : Int32) (p2 : Int32) (p3 : Int32) (p' : Nat → Int32) (hF : f_X7_goes p p1 p2 p3 = some p') : MEq l yX7_goes cX7_goes 4 none rm_X7_goes D (TY cI cC cR) [.ref h0, .int p1, .int p2, .int p3] (wX7 cI h0 h1 h2 h3 h4 p sv asd tx states len at_ letter one two number) (wX7 cI h0 h1 h2 h3 h4 p' sv asd tx states len at_ letter one two number) none := by
  refine me_v pn_X7 (Nat.le_of_ble_eq_true rfl) rfl (fun Γ X E hret => ?_)
  unfold f_X7_goes at hF
  refine kw_aload_n X dX7_goes_0 rfl 0 rfl ?_
  refine kw_get X inX7 0 rfl rfl 0 (by decide) rfl gw_698 rfl dX7_goes_1 ?_
  refine kw_iconst X dX7_goes_4 ci_1 ?_
  refine kw_iload_n X dX7_goes_5 rfl 1 rfl ?_
  refine kw_iadd X dX7_goes_6 ?_
  refine kw_iload_n X dX7_goes_7 rfl 2 rfl ?_
  obtain ⟨m1, hx, hF⟩ := ob1_ex hF
  obtain ⟨hin, hx⟩ := aset_ex hx
  refine kw_iast X E 1 0 rfl rfl hin (ws' := wX7 cI h0 h1 h2 h3 h4 m1 sv asd tx states len at_ letter one two number) (by rw [hx]; rfl) dX7_goes_8 ?_
  refine kw_aload_n X dX7_goes_9 rfl 0 rfl ?_
  refine kw_get X inX7 0 rfl rfl 0 (by decide) rfl gw_698 rfl dX7_goes_10 ?_
  refine kw_bipush X dX7_goes_13 cb_61 ?_
  refine kw_iload_n X dX7_goes_15 rfl 1 rfl ?_
  refine kw_iadd X dX7_goes_16 ?_
  refine kw_iload_n X dX7_goes_17 rfl 3 rfl ?_
  obtain ⟨m2, hx, hF⟩ := ob1_ex hF
  obtain ⟨hin, hx⟩ := aset_ex hx
  refine kw_iast X E 1 0 rfl rfl hin (ws' := wX7 cI h0 h1 h2 h3 h4 m2 sv asd tx states len at_ letter one two number) (by rw [hx]; rfl) dX7_goes_18 ?_
  obtain rfl := si1 hF
  exact hret _ _ dX7_goes_19
-- X7_bestOf
def f_X7_bestOf_L4 (p : Nat → Int32) (p1 : Int32) : Nat → Int32 → Int32 → Option (Int32)
  | 0, _, _ => none
  | F + 1, v2_42, v3_43 => ob1 (aget 986 p 0) (fun a44 => (if v3_43 < a44 then (ob1 (f_X7_isAt p v3_43 0 p1) (fun (b46 : Int32) => (ob1 (if b46 = 0 then (some 0) else (ob1 (f_X7_isBroken p v3_43) (fun (b60 : Int32) => (if b60 = 0 then (if v2_42 < 0 then (some 1) else ob1 (aget 986 p (121 + v3_43)) (fun a63 => ob1 (aget 986 p (121 + v2_42)) (fun a64 => (if a63 < a64 then (some 1) else (some 0))))) else (some 0))))) (fun (x55 : Int32) => (pl1 (if x55 = 0 then v2_42 else v3_43) (fun (x58 : Int32) => (f_X7_bestOf_L4 p p1 F x58 (v3_43 + 1)))))))) else (some (v2_42))))
def f_X7_bestOf (Z : Nat) (p : Nat → Int32) (p1 : Int32) : Option (Int32) :=
  (ob1 (f_X7_bestOf_L4 p p1 Z (-1) 0) (fun (e41 : Int32) => (some e41)))
abbrev rm_X7_bestOf : Room := { frames := 1, cells := 0, slots := 0, locals := 23 }
set_option maxHeartbeats 4000000 in
set_option maxRecDepth 100000 in
theorem c_X7_bestOf (l : Launch) (D : va_G) (cI cC cR : ClassId) (h0 h1 h2 h3 h4 : Nat) (p : Nat → Int32) (sv : Nat → Int32) (asd : Nat → Int32) (tx : Nat → Int32) (states : Int32) (len : Int32) (at_ : Int32) (letter : Int32) (one : Int32) (two : Int32) (number : Int32) (p1 : Int32) (Z : Nat) (r : Int32) (hF : f_X7_bestOf Z p p1 = some r) : MPi l yX7_bestOf cX7_bestOf 5 (some .int) rm_X7_bestOf D (TY cI cC cR) [.ref h0, .int p1] (wX7 cI h0 h1 h2 h3 h4 p sv asd tx states len at_ letter one two number) (.int r) := by
  refine me_p pn_X7 (Nat.le_of_ble_eq_true rfl) rfl (fun Γ X hret => ?_)
  unfold f_X7_bestOf at hF
  refine kw_iconst X dX7_bestOf_0 ci_m1 ?_
  refine kw_istore_n (lo' := [(0, .ref h0), (1, .int p1), (2, .int (-1))]) X dX7_bestOf_1 rfl (by decide) [1, 2, 0] rfl ?_
  refine kw_iconst X dX7_bestOf_2 ci_0 ?_
  refine kw_istore_n (lo' := [(0, .ref h0), (1, .int p1), (2, .int (-1)), (3, .int 0)]) X dX7_bestOf_3 rfl (by decide) [1, 2, 3, 0] rfl ?_
  obtain ⟨e41, hx, hF⟩ := ob1_ex hF
  have J : KW Γ 0 0 (wX7 cI h0 h1 h2 h3 h4 p sv asd tx states len at_ letter one two number) [(2, .int e41)] 81 [] := by
    refine kw_iload_n X dX7_bestOf_81 rfl 0 rfl ?_
    obtain rfl := si1 hF
    exact hret _ _ _ (vp_nar_int _) dX7_bestOf_82
  have hL4 : ∀ (F : Nat) (v2_42 : Int32) (v3_43 : Int32), f_X7_bestOf_L4 p p1 F v2_42 v3_43 = some (e41) → KW Γ 0 0 (wX7 cI h0 h1 h2 h3 h4 p sv asd tx states len at_ letter one two number) [(0, .ref h0), (1, .int p1), (2, .int v2_42), (3, .int v3_43)] 4 [] := by
    intro F
    induction F with
    | zero => intro v2_42 v3_43 hF; exact none_some hF
    | succ F ih4 =>
      intro v2_42 v3_43 hF
      rw [f_X7_bestOf_L4] at hF
      refine kw_iload_n X dX7_bestOf_4 rfl 3 rfl ?_
      refine kw_aload_n X dX7_bestOf_5 rfl 0 rfl ?_
      refine kw_get X inX7 0 rfl rfl 0 (by decide) rfl gw_698 rfl dX7_bestOf_6 ?_
      refine kw_iconst X dX7_bestOf_9 ci_0 ?_
      obtain ⟨a44, hx, hF⟩ := ob1_ex hF
      obtain ⟨hin, hx⟩ := aget_ex hx
      refine kw_iald X 1 0 rfl rfl hin hx dX7_bestOf_10 ?_
      refine kw_icmp_ge X 81 dX7_bestOf_11 (by decide) (fun q45 => ?_) (fun q45 => ?_)
      · replace hF := (if_neg q45).symm.trans hF
        refine kw_loc (lo' := [(2, .int v2_42)]) [2] rfl ?_
        obtain rfl := si1 hF
        exact J
      · replace hF := (if_pos q45).symm.trans hF
        refine kw_aload_n X dX7_bestOf_14 rfl 0 rfl ?_
        refine kw_iload_n X dX7_bestOf_15 rfl 3 rfl ?_
        refine kw_iconst X dX7_bestOf_16 ci_0 ?_
        refine kw_iload_n X dX7_bestOf_17 rfl 1 rfl ?_
        obtain ⟨b46, hx46, hF⟩ := ob1_ex hF
        refine kw_ap X (r := .int b46) (As := [.int v3_43, .int 0, .int p1]) (st := []) (c_X7_isAt l D cI cC cR h0 h1 h2 h3 h4 p sv asd tx states len at_ letter one two number v3_43 0 p1 b46 hx46) vl_X7_30 yv_X7_isAt ⟨Nat.le_of_ble_eq_true rfl, Nat.le_of_ble_eq_true rfl⟩ ⟨rfl, rfl⟩ ⟨Nat.zero_le _, Nat.zero_le _⟩ 0 rfl rfl rfl rfl (Nat.le_of_ble_eq_true rfl) dX7_bestOf_18 ?_
        obtain ⟨x55, hx56, hF⟩ := ob1_ex hF
        have J : KW Γ 0 0 (wX7 cI h0 h1 h2 h3 h4 p sv asd tx states len at_ letter one two number) [(0, .ref h0), (1, .int p1), (2, .int v2_42), (3, .int v3_43)] 62 [.int x55] := by
          refine kw_istore (lo' := [(0, .ref h0), (1, .int p1), (2, .int v2_42), (3, .int v3_43), (4, .int x55)]) X dX7_bestOf_62 (by decide) [1, 2, 3, 4, 0] rfl ?_
          refine kw_iload X dX7_bestOf_64 4 rfl ?_
          obtain ⟨x58, hx59, hF⟩ := pl1_ex hF
          have J : KW Γ 0 0 (wX7 cI h0 h1 h2 h3 h4 p sv asd tx states len at_ letter one two number) [(0, .ref h0), (1, .int p1), (3, .int v3_43)] 74 [.int x58] := by
            refine kw_istore_n (lo' := [(0, .ref h0), (1, .int p1), (2, .int x58), (3, .int v3_43)]) X dX7_bestOf_74 rfl (by decide) [1, 2, 0, 3] rfl ?_
            refine kw_iinc (lo' := [(0, .ref h0), (1, .int p1), (2, .int x58), (3, .int (v3_43 + 1))]) X dX7_bestOf_75 3 rfl (congrArg (fun w => v3_43 + w) ci_1) (by decide) [1, 2, 3, 0] rfl ?_
            refine kw_goto X 4 dX7_bestOf_78 (by decide) ?_
            exact ih4 _ _ hF
          replace hF := hx59
          refine kw_if_eq X 73 dX7_bestOf_66 (by decide) (fun q57 => ?_) (fun q57 => ?_)
          · replace hF := (if_pos q57).symm.trans hF
            refine kw_iload_n X dX7_bestOf_73 rfl 2 rfl ?_
            refine kw_loc (lo' := [(0, .ref h0), (1, .int p1), (3, .int v3_43)]) [0, 1, 3] rfl ?_
            obtain rfl := ti1 hF
            exact J
          · replace hF := (if_neg q57).symm.trans hF
            refine kw_iload_n X dX7_bestOf_69 rfl 3 rfl ?_
            refine kw_goto X 74 dX7_bestOf_70 (by decide) ?_
            refine kw_loc (lo' := [(0, .ref h0), (1, .int p1), (3, .int v3_43)]) [0, 1, 3] rfl ?_
            obtain rfl := ti1 hF
            exact J
        replace hF := hx56
        refine kw_if_eq X 61 dX7_bestOf_21 (by decide) (fun q47 => ?_) (fun q47 => ?_)
        · replace hF := (if_pos q47).symm.trans hF
          refine kw_iconst X dX7_bestOf_61 ci_0 ?_
          obtain rfl := si1 hF
          exact J
        · replace hF := (if_neg q47).symm.trans hF
          refine kw_aload_n X dX7_bestOf_24 rfl 0 rfl ?_
          refine kw_iload_n X dX7_bestOf_25 rfl 3 rfl ?_
          obtain ⟨b60, hx60, hF⟩ := ob1_ex hF
          refine kw_ap X (r := .int b60) (As := [.int v3_43]) (st := []) (c_X7_isBroken l D cI cC cR h0 h1 h2 h3 h4 p sv asd tx states len at_ letter one two number v3_43 b60 hx60) vl_X7_33 yv_X7_isBroken ⟨Nat.le_of_ble_eq_true rfl, Nat.le_of_ble_eq_true rfl⟩ ⟨rfl, rfl⟩ ⟨Nat.zero_le _, Nat.zero_le _⟩ 0 rfl rfl rfl rfl (Nat.le_of_ble_eq_true rfl) dX7_bestOf_26 ?_
          refine kw_if_ne X 61 dX7_bestOf_29 (by decide) (fun q61 => ?_) (fun q61 => ?_)
          · replace hF := (if_neg q61).symm.trans hF
            refine kw_iconst X dX7_bestOf_61 ci_0 ?_
            obtain rfl := si1 hF
            exact J
          · replace hF := (if_pos q61).symm.trans hF
            refine kw_iload_n X dX7_bestOf_32 rfl 2 rfl ?_
            refine kw_if_lt X 57 dX7_bestOf_33 (by decide) (fun q62 => ?_) (fun q62 => ?_)
            · replace hF := (if_pos q62).symm.trans hF
              refine kw_iconst X dX7_bestOf_57 ci_1 ?_
              refine kw_goto X 62 dX7_bestOf_58 (by decide) ?_
              obtain rfl := si1 hF
              exact J
            · replace hF := (if_neg q62).symm.trans hF
              refine kw_aload_n X dX7_bestOf_36 rfl 0 rfl ?_
              refine kw_get X inX7 0 rfl rfl 0 (by decide) rfl gw_698 rfl dX7_bestOf_37 ?_
              refine kw_bipush X dX7_bestOf_40 cb_121 ?_
              refine kw_iload_n X dX7_bestOf_42 rfl 3 rfl ?_
              refine kw_iadd X dX7_bestOf_43 ?_
              obtain ⟨a63, hx, hF⟩ := ob1_ex hF
              obtain ⟨hin, hx⟩ := aget_ex hx
              refine kw_iald X 1 0 rfl rfl hin hx dX7_bestOf_44 ?_
              refine kw_aload_n X dX7_bestOf_45 rfl 0 rfl ?_
              refine kw_get X inX7 0 rfl rfl 0 (by decide) rfl gw_698 rfl dX7_bestOf_46 ?_
              refine kw_bipush X dX7_bestOf_49 cb_121 ?_
              refine kw_iload_n X dX7_bestOf_51 rfl 2 rfl ?_
              refine kw_iadd X dX7_bestOf_52 ?_
              obtain ⟨a64, hx, hF⟩ := ob1_ex hF
              obtain ⟨hin, hx⟩ := aget_ex hx
              refine kw_iald X 1 0 rfl rfl hin hx dX7_bestOf_53 ?_
              refine kw_icmp_ge X 61 dX7_bestOf_54 (by decide) (fun q65 => ?_) (fun q65 => ?_)
              · replace hF := (if_neg q65).symm.trans hF
                refine kw_iconst X dX7_bestOf_61 ci_0 ?_
                obtain rfl := si1 hF
                exact J
              · replace hF := (if_pos q65).symm.trans hF
                refine kw_iconst X dX7_bestOf_57 ci_1 ?_
                refine kw_goto X 62 dX7_bestOf_58 (by decide) ?_
                obtain rfl := si1 hF
                exact J
  exact hL4 Z _ _ hx
-- X7_worstOf
def f_X7_worstOf_L4 (p : Nat → Int32) (p1 : Int32) : Nat → Int32 → Int32 → Option (Int32)
  | 0, _, _ => none
  | F + 1, v2_33, v3_34 => ob1 (aget 986 p 0) (fun a35 => (if v3_34 < a35 then (ob1 (f_X7_isAt p v3_34 0 p1) (fun (b37 : Int32) => (ob1 (if b37 = 0 then (some 0) else (if v2_33 < 0 then (some 1) else ob1 (aget 986 p (121 + v3_34)) (fun a50 => ob1 (aget 986 p (121 + v2_33)) (fun a51 => (if a51 < a50 then (some 1) else (some 0)))))) (fun (x44 : Int32) => (pl1 (if x44 = 0 then v2_33 else v3_34) (fun (x47 : Int32) => (f_X7_worstOf_L4 p p1 F x47 (v3_34 + 1)))))))) else (some (v2_33))))
def f_X7_worstOf (Z : Nat) (p : Nat → Int32) (p1 : Int32) : Option (Int32) :=
  (ob1 (f_X7_worstOf_L4 p p1 Z (-1) 0) (fun (e32 : Int32) => (some e32)))
abbrev rm_X7_worstOf : Room := { frames := 1, cells := 0, slots := 0, locals := 23 }
set_option maxHeartbeats 4000000 in
set_option maxRecDepth 100000 in
theorem c_X7_worstOf (l : Launch) (D : va_G) (cI cC cR : ClassId) (h0 h1 h2 h3 h4 : Nat) (p : Nat → Int32) (sv : Nat → Int32) (asd : Nat → Int32) (tx : Nat → Int32) (states : Int32) (len : Int32) (at_ : Int32) (letter : Int32) (one : Int32) (two : Int32) (number : Int32) (p1 : Int32) (Z : Nat) (r : Int32) (hF : f_X7_worstOf Z p p1 = some r) : MPi l yX7_worstOf cX7_worstOf 5 (some .int) rm_X7_worstOf D (TY cI cC cR) [.ref h0, .int p1] (wX7 cI h0 h1 h2 h3 h4 p sv asd tx states len at_ letter one two number) (.int r) := by
  refine me_p pn_X7 (Nat.le_of_ble_eq_true rfl) rfl (fun Γ X hret => ?_)
  unfold f_X7_worstOf at hF
  refine kw_iconst X dX7_worstOf_0 ci_m1 ?_
  refine kw_istore_n (lo' := [(0, .ref h0), (1, .int p1), (2, .int (-1))]) X dX7_worstOf_1 rfl (by decide) [1, 2, 0] rfl ?_
  refine kw_iconst X dX7_worstOf_2 ci_0 ?_
  refine kw_istore_n (lo' := [(0, .ref h0), (1, .int p1), (2, .int (-1)), (3, .int 0)]) X dX7_worstOf_3 rfl (by decide) [1, 2, 3, 0] rfl ?_
  obtain ⟨e32, hx, hF⟩ := ob1_ex hF
  have J : KW Γ 0 0 (wX7 cI h0 h1 h2 h3 h4 p sv asd tx states len at_ letter one two number) [(2, .int e32)] 73 [] := by
    refine kw_iload_n X dX7_worstOf_73 rfl 0 rfl ?_
    obtain rfl := si1 hF
    exact hret _ _ _ (vp_nar_int _) dX7_worstOf_74
  have hL4 : ∀ (F : Nat) (v2_33 : Int32) (v3_34 : Int32), f_X7_worstOf_L4 p p1 F v2_33 v3_34 = some (e32) → KW Γ 0 0 (wX7 cI h0 h1 h2 h3 h4 p sv asd tx states len at_ letter one two number) [(0, .ref h0), (1, .int p1), (2, .int v2_33), (3, .int v3_34)] 4 [] := by
    intro F
    induction F with
    | zero => intro v2_33 v3_34 hF; exact none_some hF
    | succ F ih4 =>
      intro v2_33 v3_34 hF
      rw [f_X7_worstOf_L4] at hF
      refine kw_iload_n X dX7_worstOf_4 rfl 3 rfl ?_
      refine kw_aload_n X dX7_worstOf_5 rfl 0 rfl ?_
      refine kw_get X inX7 0 rfl rfl 0 (by decide) rfl gw_698 rfl dX7_worstOf_6 ?_
      refine kw_iconst X dX7_worstOf_9 ci_0 ?_
      obtain ⟨a35, hx, hF⟩ := ob1_ex hF
      obtain ⟨hin, hx⟩ := aget_ex hx
      refine kw_iald X 1 0 rfl rfl hin hx dX7_worstOf_10 ?_
      refine kw_icmp_ge X 73 dX7_worstOf_11 (by decide) (fun q36 => ?_) (fun q36 => ?_)
      · replace hF := (if_neg q36).symm.trans hF
        refine kw_loc (lo' := [(2, .int v2_33)]) [2] rfl ?_
        obtain rfl := si1 hF
        exact J
      · replace hF := (if_pos q36).symm.trans hF
        refine kw_aload_n X dX7_worstOf_14 rfl 0 rfl ?_
        refine kw_iload_n X dX7_worstOf_15 rfl 3 rfl ?_
        refine kw_iconst X dX7_worstOf_16 ci_0 ?_
        refine kw_iload_n X dX7_worstOf_17 rfl 1 rfl ?_
        obtain ⟨b37, hx37, hF⟩ := ob1_ex hF
        refine kw_ap X (r := .int b37) (As := [.int v3_34, .int 0, .int p1]) (st := []) (c_X7_isAt l D cI cC cR h0 h1 h2 h3 h4 p sv asd tx states len at_ letter one two number v3_34 0 p1 b37 hx37) vl_X7_30 yv_X7_isAt ⟨Nat.le_of_ble_eq_true rfl, Nat.le_of_ble_eq_true rfl⟩ ⟨rfl, rfl⟩ ⟨Nat.zero_le _, Nat.zero_le _⟩ 0 rfl rfl rfl rfl (Nat.le_of_ble_eq_true rfl) dX7_worstOf_18 ?_
        obtain ⟨x44, hx45, hF⟩ := ob1_ex hF
        have J : KW Γ 0 0 (wX7 cI h0 h1 h2 h3 h4 p sv asd tx states len at_ letter one two number) [(0, .ref h0), (1, .int p1), (2, .int v2_33), (3, .int v3_34)] 54 [.int x44] := by
          refine kw_istore (lo' := [(0, .ref h0), (1, .int p1), (2, .int v2_33), (3, .int v3_34), (4, .int x44)]) X dX7_worstOf_54 (by decide) [1, 2, 3, 4, 0] rfl ?_
          refine kw_iload X dX7_worstOf_56 4 rfl ?_
          obtain ⟨x47, hx48, hF⟩ := pl1_ex hF
          have J : KW Γ 0 0 (wX7 cI h0 h1 h2 h3 h4 p sv asd tx states len at_ letter one two number) [(0, .ref h0), (1, .int p1), (3, .int v3_34)] 66 [.int x47] := by
            refine kw_istore_n (lo' := [(0, .ref h0), (1, .int p1), (2, .int x47), (3, .int v3_34)]) X dX7_worstOf_66 rfl (by decide) [1, 2, 0, 3] rfl ?_
            refine kw_iinc (lo' := [(0, .ref h0), (1, .int p1), (2, .int x47), (3, .int (v3_34 + 1))]) X dX7_worstOf_67 3 rfl (congrArg (fun w => v3_34 + w) ci_1) (by decide) [1, 2, 3, 0] rfl ?_
            refine kw_goto X 4 dX7_worstOf_70 (by decide) ?_
            exact ih4 _ _ hF
          replace hF := hx48
          refine kw_if_eq X 65 dX7_worstOf_58 (by decide) (fun q46 => ?_) (fun q46 => ?_)
          · replace hF := (if_pos q46).symm.trans hF
            refine kw_iload_n X dX7_worstOf_65 rfl 2 rfl ?_
            refine kw_loc (lo' := [(0, .ref h0), (1, .int p1), (3, .int v3_34)]) [0, 1, 3] rfl ?_
            obtain rfl := ti1 hF
            exact J
          · replace hF := (if_neg q46).symm.trans hF
            refine kw_iload_n X dX7_worstOf_61 rfl 3 rfl ?_
            refine kw_goto X 66 dX7_worstOf_62 (by decide) ?_
            refine kw_loc (lo' := [(0, .ref h0), (1, .int p1), (3, .int v3_34)]) [0, 1, 3] rfl ?_
            obtain rfl := ti1 hF
            exact J
        replace hF := hx45
        refine kw_if_eq X 53 dX7_worstOf_21 (by decide) (fun q38 => ?_) (fun q38 => ?_)
        · replace hF := (if_pos q38).symm.trans hF
          refine kw_iconst X dX7_worstOf_53 ci_0 ?_
          obtain rfl := si1 hF
          exact J
        · replace hF := (if_neg q38).symm.trans hF
          refine kw_iload_n X dX7_worstOf_24 rfl 2 rfl ?_
          refine kw_if_lt X 49 dX7_worstOf_25 (by decide) (fun q49 => ?_) (fun q49 => ?_)
          · replace hF := (if_pos q49).symm.trans hF
            refine kw_iconst X dX7_worstOf_49 ci_1 ?_
            refine kw_goto X 54 dX7_worstOf_50 (by decide) ?_
            obtain rfl := si1 hF
            exact J
          · replace hF := (if_neg q49).symm.trans hF
            refine kw_aload_n X dX7_worstOf_28 rfl 0 rfl ?_
            refine kw_get X inX7 0 rfl rfl 0 (by decide) rfl gw_698 rfl dX7_worstOf_29 ?_
            refine kw_bipush X dX7_worstOf_32 cb_121 ?_
            refine kw_iload_n X dX7_worstOf_34 rfl 3 rfl ?_
            refine kw_iadd X dX7_worstOf_35 ?_
            obtain ⟨a50, hx, hF⟩ := ob1_ex hF
            obtain ⟨hin, hx⟩ := aget_ex hx
            refine kw_iald X 1 0 rfl rfl hin hx dX7_worstOf_36 ?_
            refine kw_aload_n X dX7_worstOf_37 rfl 0 rfl ?_
            refine kw_get X inX7 0 rfl rfl 0 (by decide) rfl gw_698 rfl dX7_worstOf_38 ?_
            refine kw_bipush X dX7_worstOf_41 cb_121 ?_
            refine kw_iload_n X dX7_worstOf_43 rfl 2 rfl ?_
            refine kw_iadd X dX7_worstOf_44 ?_
            obtain ⟨a51, hx, hF⟩ := ob1_ex hF
            obtain ⟨hin, hx⟩ := aget_ex hx
            refine kw_iald X 1 0 rfl rfl hin hx dX7_worstOf_45 ?_
            refine kw_icmp_le X 53 dX7_worstOf_46 (by decide) (fun q52 => ?_) (fun q52 => ?_)
            · replace hF := (if_neg q52).symm.trans hF
              refine kw_iconst X dX7_worstOf_53 ci_0 ?_
              obtain rfl := si1 hF
              exact J
            · replace hF := (if_pos q52).symm.trans hF
              refine kw_iconst X dX7_worstOf_49 ci_1 ?_
              refine kw_goto X 54 dX7_worstOf_50 (by decide) ?_
              obtain rfl := si1 hF
              exact J
  exact hL4 Z _ _ hx
-- X7_roomOf
def f_X7_roomOf (Z : Nat) (p : Nat → Int32) (p1 : Int32) : Option (Int32) :=
  ob1 (aget 986 p (241 + p1)) (fun a1 => (ob1 (f_X7_manyAt Z p 0 p1) (fun (b2 : Int32) => (some (a1 - b2)))))
abbrev rm_X7_roomOf : Room := { frames := 2, cells := 0, slots := 0, locals := 47 }
set_option maxHeartbeats 4000000 in
set_option maxRecDepth 100000 in
theorem c_X7_roomOf (l : Launch) (D : va_G) (cI cC cR : ClassId) (h0 h1 h2 h3 h4 : Nat) (p : Nat → Int32) (sv : Nat → Int32) (asd : Nat → Int32) (tx : Nat → Int32) (states : Int32) (len : Int32) (at_ : Int32) (letter : Int32) (one : Int32) (two : Int32) (number : Int32) (p1 : Int32) (Z : Nat) (r : Int32) (hF : f_X7_roomOf Z p p1 = some r) : MPi l yX7_roomOf cX7_roomOf 2 (some .int) rm_X7_roomOf D (TY cI cC cR) [.ref h0, .int p1] (wX7 cI h0 h1 h2 h3 h4 p sv asd tx states len at_ letter one two number) (.int r) := by
  refine me_p pn_X7 (Nat.le_of_ble_eq_true rfl) rfl (fun Γ X hret => ?_)
  unfold f_X7_roomOf at hF
  refine kw_aload_n X dX7_roomOf_0 rfl 0 rfl ?_
  refine kw_get X inX7 0 rfl rfl 0 (by decide) rfl gw_698 rfl dX7_roomOf_1 ?_
  refine kw_sipush X dX7_roomOf_4 cs_241 ?_
  refine kw_iload_n X dX7_roomOf_7 rfl 1 rfl ?_
  refine kw_iadd X dX7_roomOf_8 ?_
  obtain ⟨a1, hx, hF⟩ := ob1_ex hF
  obtain ⟨hin, hx⟩ := aget_ex hx
  refine kw_iald X 1 0 rfl rfl hin hx dX7_roomOf_9 ?_
  refine kw_aload_n X dX7_roomOf_10 rfl 0 rfl ?_
  refine kw_iconst X dX7_roomOf_11 ci_0 ?_
  refine kw_iload_n X dX7_roomOf_12 rfl 1 rfl ?_
  obtain ⟨b2, hx2, hF⟩ := ob1_ex hF
  refine kw_ap X (r := .int b2) (As := [.int 0, .int p1]) (st := [.int a1]) (c_X7_manyAt l D cI cC cR h0 h1 h2 h3 h4 p sv asd tx states len at_ letter one two number 0 p1 Z b2 hx2) vl_X7_37 yv_X7_manyAt ⟨Nat.le_of_ble_eq_true rfl, Nat.le_of_ble_eq_true rfl⟩ ⟨rfl, rfl⟩ ⟨Nat.zero_le _, Nat.zero_le _⟩ 0 rfl rfl rfl rfl (Nat.le_of_ble_eq_true rfl) dX7_roomOf_13 ?_
  refine kw_isub X dX7_roomOf_16 ?_
  obtain rfl := si1 hF
  exact hret _ _ _ (vp_nar_int _) dX7_roomOf_17
-- X7_canSpend
def f_X7_canSpend (Z : Nat) (p : Nat → Int32) (p1 : Int32) : Option (Int32) :=
  ob1 (aget 986 p 321) (fun a1 => (ob1 (f_X7_manyIn Z p 1) (fun (b2 : Int32) => (if (a1 - (10 * b2)) < p1 then (some 0) else (some 1)))))
abbrev rm_X7_canSpend : Room := { frames := 1, cells := 0, slots := 0, locals := 23 }
set_option maxHeartbeats 4000000 in
set_option maxRecDepth 100000 in
theorem c_X7_canSpend (l : Launch) (D : va_G) (cI cC cR : ClassId) (h0 h1 h2 h3 h4 : Nat) (p : Nat → Int32) (sv : Nat → Int32) (asd : Nat → Int32) (tx : Nat → Int32) (states : Int32) (len : Int32) (at_ : Int32) (letter : Int32) (one : Int32) (two : Int32) (number : Int32) (p1 : Int32) (Z : Nat) (r : Int32) (hF : f_X7_canSpend Z p p1 = some r) : MPi l yX7_canSpend cX7_canSpend 2 (some .boolean) rm_X7_canSpend D (TY cI cC cR) [.ref h0, .int p1] (wX7 cI h0 h1 h2 h3 h4 p sv asd tx states len at_ letter one two number) (.int r) := by
  refine me_p pn_X7 (Nat.le_of_ble_eq_true rfl) rfl (fun Γ X hret => ?_)
  unfold f_X7_canSpend at hF
  refine kw_aload_n X dX7_canSpend_0 rfl 0 rfl ?_
  refine kw_get X inX7 0 rfl rfl 0 (by decide) rfl gw_698 rfl dX7_canSpend_1 ?_
  refine kw_sipush X dX7_canSpend_4 cs_321 ?_
  obtain ⟨a1, hx, hF⟩ := ob1_ex hF
  obtain ⟨hin, hx⟩ := aget_ex hx
  refine kw_iald X 1 0 rfl rfl hin hx dX7_canSpend_7 ?_
  refine kw_bipush X dX7_canSpend_8 cb_10 ?_
  refine kw_aload_n X dX7_canSpend_10 rfl 0 rfl ?_
  refine kw_iconst X dX7_canSpend_11 ci_1 ?_
  obtain ⟨b2, hx2, hF⟩ := ob1_ex hF
  refine kw_ap X (r := .int b2) (As := [.int 1]) (st := [.int 10, .int a1]) (c_X7_manyIn l D cI cC cR h0 h1 h2 h3 h4 p sv asd tx states len at_ letter one two number 1 Z b2 hx2) vl_X7_41 yv_X7_manyIn ⟨Nat.le_of_ble_eq_true rfl, Nat.le_of_ble_eq_true rfl⟩ ⟨rfl, rfl⟩ ⟨Nat.zero_le _, Nat.zero_le _⟩ 0 rfl rfl rfl rfl (Nat.le_of_ble_eq_true rfl) dX7_canSpend_12 ?_
  refine kw_imul X dX7_canSpend_15 ?_
  refine kw_isub X dX7_canSpend_16 ?_
  refine kw_iload_n X dX7_canSpend_17 rfl 1 rfl ?_
  refine kw_icmp_lt X 25 dX7_canSpend_18 (by decide) (fun q3 => ?_) (fun q3 => ?_)
  · replace hF := (if_pos q3).symm.trans hF
    refine kw_iconst X dX7_canSpend_25 ci_0 ?_
    obtain rfl := si1 hF
    exact hret _ _ _ rfl dX7_canSpend_26
  · replace hF := (if_neg q3).symm.trans hF
    refine kw_iconst X dX7_canSpend_21 ci_1 ?_
    refine kw_goto X 26 dX7_canSpend_22 (by decide) ?_
    obtain rfl := si1 hF
    exact hret _ _ _ rfl dX7_canSpend_26
-- X7_spends
def f_X7_spends (p : Nat → Int32) (p1 : Int32) : Option ((Nat → Int32)) :=
  ob1 (aget 986 p 321) (fun a1 => ob1 (aset 986 p 321 (a1 - p1)) (fun m2 => ob1 (aget 986 m2 323) (fun a3 => ob1 (aset 986 m2 323 (a3 + p1)) (fun m4 => (some m4)))))
abbrev rm_X7_spends : Room := { frames := 0, cells := 0, slots := 0, locals := 0 }
set_option maxHeartbeats 4000000 in
set_option maxRecDepth 100000 in
theorem c_X7_spends (l : Launch) (D : va_G) (cI cC cR : ClassId) (h0 h1 h2 h3 h4 : Nat) (p : Nat → Int32) (sv : Nat → Int32) (asd : Nat → Int32) (tx : Nat → Int32) (states : Int32) (len : Int32) (at_ : Int32) (letter : Int32) (one : Int32) (two : Int32) (number : Int32) (p1 : Int32) (p' : Nat → Int32) (hF : f_X7_spends p p1 = some p') : MEq l yX7_spends cX7_spends 2 none rm_X7_spends D (TY cI cC cR) [.ref h0, .int p1] (wX7 cI h0 h1 h2 h3 h4 p sv asd tx states len at_ letter one two number) (wX7 cI h0 h1 h2 h3 h4 p' sv asd tx states len at_ letter one two number) none := by
  refine me_v pn_X7 (Nat.le_of_ble_eq_true rfl) rfl (fun Γ X E hret => ?_)
  unfold f_X7_spends at hF
  refine kw_aload_n X dX7_spends_0 rfl 0 rfl ?_
  refine kw_get X inX7 0 rfl rfl 0 (by decide) rfl gw_698 rfl dX7_spends_1 ?_
  refine kw_sipush X dX7_spends_4 cs_321 ?_
  refine kw_dup2 X dX7_spends_7 rfl rfl ?_
  obtain ⟨a1, hx, hF⟩ := ob1_ex hF
  obtain ⟨hin, hx⟩ := aget_ex hx
  refine kw_iald X 1 0 rfl rfl hin hx dX7_spends_8 ?_
  refine kw_iload_n X dX7_spends_9 rfl 1 rfl ?_
  refine kw_isub X dX7_spends_10 ?_
  obtain ⟨m2, hx, hF⟩ := ob1_ex hF
  obtain ⟨hin, hx⟩ := aset_ex hx
  refine kw_iast X E 1 0 rfl rfl hin (ws' := wX7 cI h0 h1 h2 h3 h4 m2 sv asd tx states len at_ letter one two number) (by rw [hx]; rfl) dX7_spends_11 ?_
  refine kw_aload_n X dX7_spends_12 rfl 0 rfl ?_
  refine kw_get X inX7 0 rfl rfl 0 (by decide) rfl gw_698 rfl dX7_spends_13 ?_
  refine kw_sipush X dX7_spends_16 cs_323 ?_
  refine kw_dup2 X dX7_spends_19 rfl rfl ?_
  obtain ⟨a3, hx, hF⟩ := ob1_ex hF
  obtain ⟨hin, hx⟩ := aget_ex hx
  refine kw_iald X 1 0 rfl rfl hin hx dX7_spends_20 ?_
  refine kw_iload_n X dX7_spends_21 rfl 1 rfl ?_
  refine kw_iadd X dX7_spends_22 ?_
  obtain ⟨m4, hx, hF⟩ := ob1_ex hF
  obtain ⟨hin, hx⟩ := aset_ex hx
  refine kw_iast X E 1 0 rfl rfl hin (ws' := wX7 cI h0 h1 h2 h3 h4 m4 sv asd tx states len at_ letter one two number) (by rw [hx]; rfl) dX7_spends_23 ?_
  obtain rfl := si1 hF
  exact hret _ _ dX7_spends_24
-- X7_buy
def f_X7_buy_L71 (p1 : Int32) (p2 : Int32) (a11 : Int32) : Nat → Int32 → (Nat → Int32) → Option ((Nat → Int32))
  | 0, _, _ => none
  | F + 1, v4_26, w27 => (if v4_26 < (a11 + p2) then (ob1 (f_X7_goes w27 v4_26 0 p1) (fun (m29 : Nat → Int32) => ob1 (aset 986 m29 (121 + v4_26) 0) (fun m30 => ob1 (aset 986 m30 (181 + v4_26) 0) (fun m31 => (f_X7_buy_L71 p1 p2 a11 F (v4_26 + 1) m31))))) else (some (w27)))
def f_X7_buy (Z : Nat) (p : Nat → Int32) (sv : Nat → Int32) (states : Int32) (p1 : Int32) (p2 : Int32) : Option (Int32 × (Nat → Int32) × (Nat → Int32) × Int32) :=
  (if (f_X7_isStand p1) = 0 then (some ((-1), p, sv, states)) else (if (f_X7_in p2 1 20) = 0 then (some ((-1), p, sv, states)) else (ob1 (f_X7_canSpend Z p (5 * p2)) (fun (b3 : Int32) => (if b3 = 0 then (some ((-2), p, sv, states)) else ob1 (aget 986 p 0) (fun a5 => (if 60 < (a5 + p2) then (some ((-3), p, sv, states)) else (ob1 (f_X7_roomOf Z p p1) (fun (b7 : Int32) => (if b7 < p2 then (some ((-3), p, sv, states)) else (ob2 (f_X7_save Z p sv states) (fun (m9 : Nat → Int32) (b10 : Int32) => ob1 (aget 986 p 0) (fun a11 => (ob1 (f_X7_buy_L71 p1 p2 a11 Z a11 p) (fun (w22 : Nat → Int32) => ob1 (aget 986 w22 0) (fun a23 => ob1 (aset 986 w22 0 (a23 + p2)) (fun m24 => (ob1 (f_X7_spends m24 (5 * p2)) (fun (m25 : Nat → Int32) => (some (a11, m25, m9, b10)))))))))))))))))))))
abbrev rm_X7_buy : Room := { frames := 3, cells := 0, slots := 0, locals := 68 }
set_option maxHeartbeats 4000000 in
set_option maxRecDepth 100000 in
theorem c_X7_buy (l : Launch) (D : va_G) (cI cC cR : ClassId) (h0 h1 h2 h3 h4 : Nat) (p : Nat → Int32) (sv : Nat → Int32) (asd : Nat → Int32) (tx : Nat → Int32) (states : Int32) (len : Int32) (at_ : Int32) (letter : Int32) (one : Int32) (two : Int32) (number : Int32) (p1 : Int32) (p2 : Int32) (Z : Nat) (r : Int32) (p' : Nat → Int32) (sv' : Nat → Int32) (states' : Int32) (hF : f_X7_buy Z p sv states p1 p2 = some (r, p', sv', states')) : MEq l yX7_buy cX7_buy 5 (some .int) rm_X7_buy D (TY cI cC cR) [.ref h0, .int p1, .int p2] (wX7 cI h0 h1 h2 h3 h4 p sv asd tx states len at_ letter one two number) (wX7 cI h0 h1 h2 h3 h4 p' sv' asd tx states' len at_ letter one two number) (some (.int r)) := by
  refine me_e pn_X7 (Nat.le_of_ble_eq_true rfl) rfl (fun Γ X E hret => ?_)
  unfold f_X7_buy at hF
  refine kw_iload_n X dX7_buy_0 rfl 1 rfl ?_
  refine kw_sp X (r := .int (f_X7_isStand p1)) (As := [.int p1]) (st := []) (c_X7_isStand l D cI cC cR  p1 (f_X7_isStand p1) rfl) vl_X7_45 yv_X7_isStand ⟨Nat.le_of_ble_eq_true rfl, Nat.le_of_ble_eq_true rfl⟩ ⟨rfl, rfl⟩ ⟨Nat.zero_le _, Nat.zero_le _⟩ [] rfl rfl rfl rfl (Nat.le_of_ble_eq_true rfl) dX7_buy_1 ?_
  refine kw_if_eq X 17 dX7_buy_4 (by decide) (fun q1 => ?_) (fun q1 => ?_)
  · replace hF := (if_pos q1).symm.trans hF
    refine kw_iconst X dX7_buy_17 ci_m1 ?_
    obtain ⟨rfl, rfl, rfl, rfl⟩ := si4 hF
    exact hret _ _ (vp_nar_int _) dX7_buy_18
  · replace hF := (if_neg q1).symm.trans hF
    refine kw_iload_n X dX7_buy_7 rfl 2 rfl ?_
    refine kw_iconst X dX7_buy_8 ci_1 ?_
    refine kw_bipush X dX7_buy_9 cb_20 ?_
    refine kw_sp X (r := .int (f_X7_in p2 1 20)) (As := [.int p2, .int 1, .int 20]) (st := []) (c_X7_in l D cI cC cR  p2 1 20 (f_X7_in p2 1 20) rfl) vl_X7_22 yv_X7_in ⟨Nat.le_of_ble_eq_true rfl, Nat.le_of_ble_eq_true rfl⟩ ⟨rfl, rfl⟩ ⟨Nat.zero_le _, Nat.zero_le _⟩ [] rfl rfl rfl rfl (Nat.le_of_ble_eq_true rfl) dX7_buy_11 ?_
    refine kw_if_ne X 19 dX7_buy_14 (by decide) (fun q2 => ?_) (fun q2 => ?_)
    · replace hF := (if_neg q2).symm.trans hF
      refine kw_aload_n X dX7_buy_19 rfl 0 rfl ?_
      refine kw_iconst X dX7_buy_20 ci_5 ?_
      refine kw_iload_n X dX7_buy_21 rfl 2 rfl ?_
      refine kw_imul X dX7_buy_22 ?_
      obtain ⟨b3, hx3, hF⟩ := ob1_ex hF
      refine kw_ap X (r := .int b3) (As := [.int (5 * p2)]) (st := []) (c_X7_canSpend l D cI cC cR h0 h1 h2 h3 h4 p sv asd tx states len at_ letter one two number (5 * p2) Z b3 hx3) vl_X7_48 yv_X7_canSpend ⟨Nat.le_of_ble_eq_true rfl, Nat.le_of_ble_eq_true rfl⟩ ⟨rfl, rfl⟩ ⟨Nat.zero_le _, Nat.zero_le _⟩ 0 rfl rfl rfl rfl (Nat.le_of_ble_eq_true rfl) dX7_buy_23 ?_
      refine kw_if_ne X 32 dX7_buy_26 (by decide) (fun q4 => ?_) (fun q4 => ?_)
      · replace hF := (if_neg q4).symm.trans hF
        refine kw_aload_n X dX7_buy_32 rfl 0 rfl ?_
        refine kw_get X inX7 0 rfl rfl 0 (by decide) rfl gw_698 rfl dX7_buy_33 ?_
        refine kw_iconst X dX7_buy_36 ci_0 ?_
        obtain ⟨a5, hx, hF⟩ := ob1_ex hF
        obtain ⟨hin, hx⟩ := aget_ex hx
        refine kw_iald X 1 0 rfl rfl hin hx dX7_buy_37 ?_
        refine kw_iload_n X dX7_buy_38 rfl 2 rfl ?_
        refine kw_iadd X dX7_buy_39 ?_
        refine kw_bipush X dX7_buy_40 cb_60 ?_
        refine kw_icmp_gt X 54 dX7_buy_42 (by decide) (fun q6 => ?_) (fun q6 => ?_)
        · replace hF := (if_pos q6).symm.trans hF
          refine kw_bipush X dX7_buy_54 cb_m3 ?_
          obtain ⟨rfl, rfl, rfl, rfl⟩ := si4 hF
          exact hret _ _ (vp_nar_int _) dX7_buy_56
        · replace hF := (if_neg q6).symm.trans hF
          refine kw_iload_n X dX7_buy_45 rfl 2 rfl ?_
          refine kw_aload_n X dX7_buy_46 rfl 0 rfl ?_
          refine kw_iload_n X dX7_buy_47 rfl 1 rfl ?_
          obtain ⟨b7, hx7, hF⟩ := ob1_ex hF
          refine kw_ap X (r := .int b7) (As := [.int p1]) (st := [.int p2]) (c_X7_roomOf l D cI cC cR h0 h1 h2 h3 h4 p sv asd tx states len at_ letter one two number p1 Z b7 hx7) vl_X7_51 yv_X7_roomOf ⟨Nat.le_of_ble_eq_true rfl, Nat.le_of_ble_eq_true rfl⟩ ⟨rfl, rfl⟩ ⟨Nat.zero_le _, Nat.zero_le _⟩ 0 rfl rfl rfl rfl (Nat.le_of_ble_eq_true rfl) dX7_buy_48 ?_
          refine kw_icmp_le X 57 dX7_buy_51 (by decide) (fun q8 => ?_) (fun q8 => ?_)
          · replace hF := (if_neg q8).symm.trans hF
            refine kw_aload_n X dX7_buy_57 rfl 0 rfl ?_
            obtain ⟨m9, b10, hx10, hF⟩ := ob2_ex hF
            refine kw_aev X (As := []) (st := []) E (c_X7_save l D cI cC cR h0 h1 h2 h3 h4 p sv asd tx states len at_ letter one two number Z m9 b10 hx10) vl_X7_54 yv_X7_save ⟨Nat.le_of_ble_eq_true rfl, Nat.le_of_ble_eq_true rfl⟩ ⟨rfl, rfl⟩ ⟨Nat.zero_le _, Nat.zero_le _⟩ 0 rfl rfl rfl rfl (Nat.le_of_ble_eq_true rfl) dX7_buy_58 ?_
            refine kw_aload_n X dX7_buy_61 rfl 0 rfl ?_
            refine kw_get X inX7 0 rfl rfl 0 (by decide) rfl gw_698 rfl dX7_buy_62 ?_
            refine kw_iconst X dX7_buy_65 ci_0 ?_
            obtain ⟨a11, hx, hF⟩ := ob1_ex hF
            obtain ⟨hin, hx⟩ := aget_ex hx
            refine kw_iald X 1 0 rfl rfl hin hx dX7_buy_66 ?_
            refine kw_istore_n (lo' := [(0, .ref h0), (1, .int p1), (2, .int p2), (3, .int a11)]) X dX7_buy_67 rfl (by decide) [1, 2, 3, 0] rfl ?_
            refine kw_iload_n X dX7_buy_68 rfl 3 rfl ?_
            refine kw_istore (lo' := [(0, .ref h0), (1, .int p1), (2, .int p2), (3, .int a11), (4, .int a11)]) X dX7_buy_69 (by decide) [1, 2, 3, 4, 0] rfl ?_
            obtain ⟨w22, hx, hF⟩ := ob1_ex hF
            have J : KW Γ 0 0 (wX7 cI h0 h1 h2 h3 h4 w22 m9 asd tx b10 len at_ letter one two number) [(0, .ref h0), (2, .int p2), (3, .int a11)] 116 [] := by
              refine kw_aload_n X dX7_buy_116 rfl 0 rfl ?_
              refine kw_get X inX7 0 rfl rfl 0 (by decide) rfl gw_698 rfl dX7_buy_117 ?_
              refine kw_iconst X dX7_buy_120 ci_0 ?_
              refine kw_dup2 X dX7_buy_121 rfl rfl ?_
              obtain ⟨a23, hx, hF⟩ := ob1_ex hF
              obtain ⟨hin, hx⟩ := aget_ex hx
              refine kw_iald X 1 0 rfl rfl hin hx dX7_buy_122 ?_
              refine kw_iload_n X dX7_buy_123 rfl 1 rfl ?_
              refine kw_iadd X dX7_buy_124 ?_
              obtain ⟨m24, hx, hF⟩ := ob1_ex hF
              obtain ⟨hin, hx⟩ := aset_ex hx
              refine kw_iast X E 1 0 rfl rfl hin (ws' := wX7 cI h0 h1 h2 h3 h4 m24 m9 asd tx b10 len at_ letter one two number) (by rw [hx]; rfl) dX7_buy_125 ?_
              refine kw_aload_n X dX7_buy_126 rfl 0 rfl ?_
              refine kw_iconst X dX7_buy_127 ci_5 ?_
              refine kw_iload_n X dX7_buy_128 rfl 1 rfl ?_
              refine kw_imul X dX7_buy_129 ?_
              obtain ⟨m25, hx25, hF⟩ := ob1_ex hF
              refine kw_aev X (As := [.int (5 * p2)]) (st := []) E (c_X7_spends l D cI cC cR h0 h1 h2 h3 h4 m24 m9 asd tx b10 len at_ letter one two number (5 * p2) m25 hx25) vl_X7_61 yv_X7_spends ⟨Nat.le_of_ble_eq_true rfl, Nat.le_of_ble_eq_true rfl⟩ ⟨rfl, rfl⟩ ⟨Nat.zero_le _, Nat.zero_le _⟩ 0 rfl rfl rfl rfl (Nat.le_of_ble_eq_true rfl) dX7_buy_130 ?_
              refine kw_iload_n X dX7_buy_133 rfl 2 rfl ?_
              obtain ⟨rfl, rfl, rfl, rfl⟩ := si4 hF
              exact hret _ _ (vp_nar_int _) dX7_buy_134
            have hL71 : ∀ (F : Nat) (v4_26 : Int32) (w27 : Nat → Int32), f_X7_buy_L71 p1 p2 a11 F v4_26 w27 = some (w22) → KW Γ 0 0 (wX7 cI h0 h1 h2 h3 h4 w27 m9 asd tx b10 len at_ letter one two number) [(0, .ref h0), (1, .int p1), (2, .int p2), (3, .int a11), (4, .int v4_26)] 71 [] := by
              intro F
              induction F with
              | zero => intro v4_26 w27 hF; exact none_some hF
              | succ F ih71 =>
                intro v4_26 w27 hF
                rw [f_X7_buy_L71] at hF
                refine kw_iload X dX7_buy_71 4 rfl ?_
                refine kw_iload_n X dX7_buy_73 rfl 3 rfl ?_
                refine kw_iload_n X dX7_buy_74 rfl 2 rfl ?_
                refine kw_iadd X dX7_buy_75 ?_
                refine kw_icmp_ge X 116 dX7_buy_76 (by decide) (fun q28 => ?_) (fun q28 => ?_)
                · replace hF := (if_neg q28).symm.trans hF
                  refine kw_loc (lo' := [(0, .ref h0), (2, .int p2), (3, .int a11)]) [0, 2, 3] rfl ?_
                  obtain rfl := si1 hF
                  exact J
                · replace hF := (if_pos q28).symm.trans hF
                  refine kw_aload_n X dX7_buy_79 rfl 0 rfl ?_
                  refine kw_iload X dX7_buy_80 4 rfl ?_
                  refine kw_iconst X dX7_buy_82 ci_0 ?_
                  refine kw_iload_n X dX7_buy_83 rfl 1 rfl ?_
                  obtain ⟨m29, hx29, hF⟩ := ob1_ex hF
                  refine kw_aev X (As := [.int v4_26, .int 0, .int p1]) (st := []) E (c_X7_goes l D cI cC cR h0 h1 h2 h3 h4 w27 m9 asd tx b10 len at_ letter one two number v4_26 0 p1 m29 hx29) vl_X7_57 yv_X7_goes ⟨Nat.le_of_ble_eq_true rfl, Nat.le_of_ble_eq_true rfl⟩ ⟨rfl, rfl⟩ ⟨Nat.zero_le _, Nat.zero_le _⟩ 0 rfl rfl rfl rfl (Nat.le_of_ble_eq_true rfl) dX7_buy_84 ?_
                  refine kw_aload_n X dX7_buy_87 rfl 0 rfl ?_
                  refine kw_get X inX7 0 rfl rfl 0 (by decide) rfl gw_698 rfl dX7_buy_88 ?_
                  refine kw_bipush X dX7_buy_91 cb_121 ?_
                  refine kw_iload X dX7_buy_93 4 rfl ?_
                  refine kw_iadd X dX7_buy_95 ?_
                  refine kw_iconst X dX7_buy_96 ci_0 ?_
                  obtain ⟨m30, hx, hF⟩ := ob1_ex hF
                  obtain ⟨hin, hx⟩ := aset_ex hx
                  refine kw_iast X E 1 0 rfl rfl hin (ws' := wX7 cI h0 h1 h2 h3 h4 m30 m9 asd tx b10 len at_ letter one two number) (by rw [hx]; rfl) dX7_buy_97 ?_
                  refine kw_aload_n X dX7_buy_98 rfl 0 rfl ?_
                  refine kw_get X inX7 0 rfl rfl 0 (by decide) rfl gw_698 rfl dX7_buy_99 ?_
                  refine kw_sipush X dX7_buy_102 cs_181 ?_
                  refine kw_iload X dX7_buy_105 4 rfl ?_
                  refine kw_iadd X dX7_buy_107 ?_
                  refine kw_iconst X dX7_buy_108 ci_0 ?_
                  obtain ⟨m31, hx, hF⟩ := ob1_ex hF
                  obtain ⟨hin, hx⟩ := aset_ex hx
                  refine kw_iast X E 1 0 rfl rfl hin (ws' := wX7 cI h0 h1 h2 h3 h4 m31 m9 asd tx b10 len at_ letter one two number) (by rw [hx]; rfl) dX7_buy_109 ?_
                  refine kw_iinc (lo' := [(0, .ref h0), (1, .int p1), (2, .int p2), (3, .int a11), (4, .int (v4_26 + 1))]) X dX7_buy_110 4 rfl (congrArg (fun w => v4_26 + w) ci_1) (by decide) [1, 2, 3, 4, 0] rfl ?_
                  refine kw_goto X 71 dX7_buy_113 (by decide) ?_
                  exact ih71 _ _ hF
            exact hL71 Z _ _ hx
          · replace hF := (if_pos q8).symm.trans hF
            refine kw_bipush X dX7_buy_54 cb_m3 ?_
            obtain ⟨rfl, rfl, rfl, rfl⟩ := si4 hF
            exact hret _ _ (vp_nar_int _) dX7_buy_56
      · replace hF := (if_pos q4).symm.trans hF
        refine kw_bipush X dX7_buy_29 cb_m2 ?_
        obtain ⟨rfl, rfl, rfl, rfl⟩ := si4 hF
        exact hret _ _ (vp_nar_int _) dX7_buy_31
    · replace hF := (if_pos q2).symm.trans hF
      refine kw_iconst X dX7_buy_17 ci_m1 ?_
      obtain ⟨rfl, rfl, rfl, rfl⟩ := si4 hF
      exact hret _ _ (vp_nar_int _) dX7_buy_18
-- X7_set
def f_X7_set (Z : Nat) (p : Nat → Int32) (sv : Nat → Int32) (states : Int32) (p1 : Int32) (p2 : Int32) : Option (Int32 × (Nat → Int32) × (Nat → Int32) × Int32) :=
  (if (f_X7_in p1 0 8) = 0 then (some ((-1), p, sv, states)) else (pl1 (if p1 = 8 then 0 else 1) (fun (x3 : Int32) => (pl1 (if p1 = 8 then 5 else 20) (fun (x6 : Int32) => (if (f_X7_in p2 x3 x6) = 0 then (some ((-1), p, sv, states)) else (if p1 < 8 then (ob1 (f_X7_manyAt Z p 0 p1) (fun (b17 : Int32) => (if p2 < b17 then (some ((-2), p, sv, states)) else (ob2 (f_X7_save Z p sv states) (fun (m19 : Nat → Int32) (b20 : Int32) => (pl1 (if p1 = 8 then 327 else (241 + p1)) (fun (x22 : Int32) => ob1 (aget 986 p x22) (fun a24 => ob1 (aset 986 p x22 p2) (fun m25 => (some (a24, m25, m19, b20))))))))))) else (ob2 (f_X7_save Z p sv states) (fun (m10 : Nat → Int32) (b11 : Int32) => (pl1 (if p1 = 8 then 327 else (241 + p1)) (fun (x13 : Int32) => ob1 (aget 986 p x13) (fun a15 => ob1 (aset 986 p x13 p2) (fun m16 => (some (a15, m16, m10, b11)))))))))))))))
abbrev rm_X7_set : Room := { frames := 2, cells := 0, slots := 0, locals := 47 }
set_option maxHeartbeats 4000000 in
set_option maxRecDepth 100000 in
theorem c_X7_set (l : Launch) (D : va_G) (cI cC cR : ClassId) (h0 h1 h2 h3 h4 : Nat) (p : Nat → Int32) (sv : Nat → Int32) (asd : Nat → Int32) (tx : Nat → Int32) (states : Int32) (len : Int32) (at_ : Int32) (letter : Int32) (one : Int32) (two : Int32) (number : Int32) (p1 : Int32) (p2 : Int32) (Z : Nat) (r : Int32) (p' : Nat → Int32) (sv' : Nat → Int32) (states' : Int32) (hF : f_X7_set Z p sv states p1 p2 = some (r, p', sv', states')) : MEq l yX7_set cX7_set 5 (some .int) rm_X7_set D (TY cI cC cR) [.ref h0, .int p1, .int p2] (wX7 cI h0 h1 h2 h3 h4 p sv asd tx states len at_ letter one two number) (wX7 cI h0 h1 h2 h3 h4 p' sv' asd tx states' len at_ letter one two number) (some (.int r)) := by
  refine me_e pn_X7 (Nat.le_of_ble_eq_true rfl) rfl (fun Γ X E hret => ?_)
  unfold f_X7_set at hF
  refine kw_iload_n X dX7_set_0 rfl 1 rfl ?_
  refine kw_iconst X dX7_set_1 ci_0 ?_
  refine kw_bipush X dX7_set_2 cb_8 ?_
  refine kw_sp X (r := .int (f_X7_in p1 0 8)) (As := [.int p1, .int 0, .int 8]) (st := []) (c_X7_in l D cI cC cR  p1 0 8 (f_X7_in p1 0 8) rfl) vl_X7_22 yv_X7_in ⟨Nat.le_of_ble_eq_true rfl, Nat.le_of_ble_eq_true rfl⟩ ⟨rfl, rfl⟩ ⟨Nat.zero_le _, Nat.zero_le _⟩ [] rfl rfl rfl rfl (Nat.le_of_ble_eq_true rfl) dX7_set_4 ?_
  refine kw_if_eq X 40 dX7_set_7 (by decide) (fun q1 => ?_) (fun q1 => ?_)
  · replace hF := (if_pos q1).symm.trans hF
    refine kw_iconst X dX7_set_40 ci_m1 ?_
    obtain ⟨rfl, rfl, rfl, rfl⟩ := si4 hF
    exact hret _ _ (vp_nar_int _) dX7_set_41
  · replace hF := (if_neg q1).symm.trans hF
    refine kw_iload_n X dX7_set_10 rfl 2 rfl ?_
    refine kw_iload_n X dX7_set_11 rfl 1 rfl ?_
    refine kw_bipush X dX7_set_12 cb_8 ?_
    obtain ⟨x3, hx4, hF⟩ := pl1_ex hF
    have J : KW Γ 0 0 (wX7 cI h0 h1 h2 h3 h4 p sv asd tx states len at_ letter one two number) [(0, .ref h0), (1, .int p1), (2, .int p2)] 22 [.int x3, .int p2] := by
      refine kw_iload_n X dX7_set_22 rfl 1 rfl ?_
      refine kw_bipush X dX7_set_23 cb_8 ?_
      obtain ⟨x6, hx7, hF⟩ := pl1_ex hF
      have J : KW Γ 0 0 (wX7 cI h0 h1 h2 h3 h4 p sv asd tx states len at_ letter one two number) [(0, .ref h0), (1, .int p1), (2, .int p2)] 34 [.int x6, .int x3, .int p2] := by
        refine kw_sp X (r := .int (f_X7_in p2 x3 x6)) (As := [.int p2, .int x3, .int x6]) (st := []) (c_X7_in l D cI cC cR  p2 x3 x6 (f_X7_in p2 x3 x6) rfl) vl_X7_22 yv_X7_in ⟨Nat.le_of_ble_eq_true rfl, Nat.le_of_ble_eq_true rfl⟩ ⟨rfl, rfl⟩ ⟨Nat.zero_le _, Nat.zero_le _⟩ [] rfl rfl rfl rfl (Nat.le_of_ble_eq_true rfl) dX7_set_34 ?_
        refine kw_if_ne X 42 dX7_set_37 (by decide) (fun q8 => ?_) (fun q8 => ?_)
        · replace hF := (if_neg q8).symm.trans hF
          refine kw_iload_n X dX7_set_42 rfl 1 rfl ?_
          refine kw_bipush X dX7_set_43 cb_8 ?_
          refine kw_icmp_ge X 61 dX7_set_45 (by decide) (fun q9 => ?_) (fun q9 => ?_)
          · replace hF := (if_neg q9).symm.trans hF
            refine kw_aload_n X dX7_set_61 rfl 0 rfl ?_
            obtain ⟨m10, b11, hx11, hF⟩ := ob2_ex hF
            refine kw_aev X (As := []) (st := []) E (c_X7_save l D cI cC cR h0 h1 h2 h3 h4 p sv asd tx states len at_ letter one two number Z m10 b11 hx11) vl_X7_54 yv_X7_save ⟨Nat.le_of_ble_eq_true rfl, Nat.le_of_ble_eq_true rfl⟩ ⟨rfl, rfl⟩ ⟨Nat.zero_le _, Nat.zero_le _⟩ 0 rfl rfl rfl rfl (Nat.le_of_ble_eq_true rfl) dX7_set_62 ?_
            refine kw_iload_n X dX7_set_65 rfl 1 rfl ?_
            refine kw_bipush X dX7_set_66 cb_8 ?_
            obtain ⟨x13, hx14, hF⟩ := pl1_ex hF
            have J : KW Γ 0 0 (wX7 cI h0 h1 h2 h3 h4 p m10 asd tx b11 len at_ letter one two number) [(0, .ref h0), (2, .int p2)] 82 [.int x13] := by
              refine kw_istore_n (lo' := [(0, .ref h0), (2, .int p2), (3, .int x13)]) X dX7_set_82 rfl (by decide) [1, 2, 0] rfl ?_
              refine kw_aload_n X dX7_set_83 rfl 0 rfl ?_
              refine kw_get X inX7 0 rfl rfl 0 (by decide) rfl gw_698 rfl dX7_set_84 ?_
              refine kw_iload_n X dX7_set_87 rfl 2 rfl ?_
              obtain ⟨a15, hx, hF⟩ := ob1_ex hF
              obtain ⟨hin, hx⟩ := aget_ex hx
              refine kw_iald X 1 0 rfl rfl hin hx dX7_set_88 ?_
              refine kw_istore (lo' := [(0, .ref h0), (2, .int p2), (3, .int x13), (4, .int a15)]) X dX7_set_89 (by decide) [1, 2, 3, 0] rfl ?_
              refine kw_aload_n X dX7_set_91 rfl 0 rfl ?_
              refine kw_get X inX7 0 rfl rfl 0 (by decide) rfl gw_698 rfl dX7_set_92 ?_
              refine kw_iload_n X dX7_set_95 rfl 2 rfl ?_
              refine kw_iload_n X dX7_set_96 rfl 1 rfl ?_
              obtain ⟨m16, hx, hF⟩ := ob1_ex hF
              obtain ⟨hin, hx⟩ := aset_ex hx
              refine kw_iast X E 1 0 rfl rfl hin (ws' := wX7 cI h0 h1 h2 h3 h4 m16 m10 asd tx b11 len at_ letter one two number) (by rw [hx]; rfl) dX7_set_97 ?_
              refine kw_iload X dX7_set_98 3 rfl ?_
              obtain ⟨rfl, rfl, rfl, rfl⟩ := si4 hF
              exact hret _ _ (vp_nar_int _) dX7_set_100
            replace hF := hx14
            refine kw_icmp_ne X 77 dX7_set_68 (by decide) (fun q12 => ?_) (fun q12 => ?_)
            · replace hF := (if_neg q12).symm.trans hF
              refine kw_sipush X dX7_set_77 cs_241 ?_
              refine kw_iload_n X dX7_set_80 rfl 1 rfl ?_
              refine kw_iadd X dX7_set_81 ?_
              refine kw_loc (lo' := [(0, .ref h0), (2, .int p2)]) [0, 2] rfl ?_
              obtain rfl := ti1 hF
              exact J
            · replace hF := (if_pos q12).symm.trans hF
              refine kw_sipush X dX7_set_71 cs_327 ?_
              refine kw_goto X 82 dX7_set_74 (by decide) ?_
              refine kw_loc (lo' := [(0, .ref h0), (2, .int p2)]) [0, 2] rfl ?_
              obtain rfl := ti1 hF
              exact J
          · replace hF := (if_pos q9).symm.trans hF
            refine kw_aload_n X dX7_set_48 rfl 0 rfl ?_
            refine kw_iconst X dX7_set_49 ci_0 ?_
            refine kw_iload_n X dX7_set_50 rfl 1 rfl ?_
            obtain ⟨b17, hx17, hF⟩ := ob1_ex hF
            refine kw_ap X (r := .int b17) (As := [.int 0, .int p1]) (st := []) (c_X7_manyAt l D cI cC cR h0 h1 h2 h3 h4 p sv asd tx states len at_ letter one two number 0 p1 Z b17 hx17) vl_X7_37 yv_X7_manyAt ⟨Nat.le_of_ble_eq_true rfl, Nat.le_of_ble_eq_true rfl⟩ ⟨rfl, rfl⟩ ⟨Nat.zero_le _, Nat.zero_le _⟩ 0 rfl rfl rfl rfl (Nat.le_of_ble_eq_true rfl) dX7_set_51 ?_
            refine kw_iload_n X dX7_set_54 rfl 2 rfl ?_
            refine kw_icmp_le X 61 dX7_set_55 (by decide) (fun q18 => ?_) (fun q18 => ?_)
            · replace hF := (if_neg q18).symm.trans hF
              refine kw_aload_n X dX7_set_61 rfl 0 rfl ?_
              obtain ⟨m19, b20, hx20, hF⟩ := ob2_ex hF
              refine kw_aev X (As := []) (st := []) E (c_X7_save l D cI cC cR h0 h1 h2 h3 h4 p sv asd tx states len at_ letter one two number Z m19 b20 hx20) vl_X7_54 yv_X7_save ⟨Nat.le_of_ble_eq_true rfl, Nat.le_of_ble_eq_true rfl⟩ ⟨rfl, rfl⟩ ⟨Nat.zero_le _, Nat.zero_le _⟩ 0 rfl rfl rfl rfl (Nat.le_of_ble_eq_true rfl) dX7_set_62 ?_
              refine kw_iload_n X dX7_set_65 rfl 1 rfl ?_
              refine kw_bipush X dX7_set_66 cb_8 ?_
              obtain ⟨x22, hx23, hF⟩ := pl1_ex hF
              have J : KW Γ 0 0 (wX7 cI h0 h1 h2 h3 h4 p m19 asd tx b20 len at_ letter one two number) [(0, .ref h0), (2, .int p2)] 82 [.int x22] := by
                refine kw_istore_n (lo' := [(0, .ref h0), (2, .int p2), (3, .int x22)]) X dX7_set_82 rfl (by decide) [1, 2, 0] rfl ?_
                refine kw_aload_n X dX7_set_83 rfl 0 rfl ?_
                refine kw_get X inX7 0 rfl rfl 0 (by decide) rfl gw_698 rfl dX7_set_84 ?_
                refine kw_iload_n X dX7_set_87 rfl 2 rfl ?_
                obtain ⟨a24, hx, hF⟩ := ob1_ex hF
                obtain ⟨hin, hx⟩ := aget_ex hx
                refine kw_iald X 1 0 rfl rfl hin hx dX7_set_88 ?_
                refine kw_istore (lo' := [(0, .ref h0), (2, .int p2), (3, .int x22), (4, .int a24)]) X dX7_set_89 (by decide) [1, 2, 3, 0] rfl ?_
                refine kw_aload_n X dX7_set_91 rfl 0 rfl ?_
                refine kw_get X inX7 0 rfl rfl 0 (by decide) rfl gw_698 rfl dX7_set_92 ?_
                refine kw_iload_n X dX7_set_95 rfl 2 rfl ?_
                refine kw_iload_n X dX7_set_96 rfl 1 rfl ?_
                obtain ⟨m25, hx, hF⟩ := ob1_ex hF
                obtain ⟨hin, hx⟩ := aset_ex hx
                refine kw_iast X E 1 0 rfl rfl hin (ws' := wX7 cI h0 h1 h2 h3 h4 m25 m19 asd tx b20 len at_ letter one two number) (by rw [hx]; rfl) dX7_set_97 ?_
                refine kw_iload X dX7_set_98 3 rfl ?_
                obtain ⟨rfl, rfl, rfl, rfl⟩ := si4 hF
                exact hret _ _ (vp_nar_int _) dX7_set_100
              replace hF := hx23
              refine kw_icmp_ne X 77 dX7_set_68 (by decide) (fun q21 => ?_) (fun q21 => ?_)
              · replace hF := (if_neg q21).symm.trans hF
                refine kw_sipush X dX7_set_77 cs_241 ?_
                refine kw_iload_n X dX7_set_80 rfl 1 rfl ?_
                refine kw_iadd X dX7_set_81 ?_
                refine kw_loc (lo' := [(0, .ref h0), (2, .int p2)]) [0, 2] rfl ?_
                obtain rfl := ti1 hF
                exact J
              · replace hF := (if_pos q21).symm.trans hF
                refine kw_sipush X dX7_set_71 cs_327 ?_
                refine kw_goto X 82 dX7_set_74 (by decide) ?_
                refine kw_loc (lo' := [(0, .ref h0), (2, .int p2)]) [0, 2] rfl ?_
                obtain rfl := ti1 hF
                exact J
            · replace hF := (if_pos q18).symm.trans hF
              refine kw_bipush X dX7_set_58 cb_m2 ?_
              obtain ⟨rfl, rfl, rfl, rfl⟩ := si4 hF
              exact hret _ _ (vp_nar_int _) dX7_set_60
        · replace hF := (if_pos q8).symm.trans hF
          refine kw_iconst X dX7_set_40 ci_m1 ?_
          obtain ⟨rfl, rfl, rfl, rfl⟩ := si4 hF
          exact hret _ _ (vp_nar_int _) dX7_set_41
      replace hF := hx7
      refine kw_icmp_ne X 32 dX7_set_25 (by decide) (fun q5 => ?_) (fun q5 => ?_)
      · replace hF := (if_neg q5).symm.trans hF
        refine kw_bipush X dX7_set_32 cb_20 ?_
        obtain rfl := ti1 hF
        exact J
      · replace hF := (if_pos q5).symm.trans hF
        refine kw_iconst X dX7_set_28 ci_5 ?_
        refine kw_goto X 34 dX7_set_29 (by decide) ?_
        obtain rfl := ti1 hF
        exact J
    replace hF := hx4
    refine kw_icmp_ne X 21 dX7_set_14 (by decide) (fun q2 => ?_) (fun q2 => ?_)
    · replace hF := (if_neg q2).symm.trans hF
      refine kw_iconst X dX7_set_21 ci_1 ?_
      obtain rfl := ti1 hF
      exact J
    · replace hF := (if_pos q2).symm.trans hF
      refine kw_iconst X dX7_set_17 ci_0 ?_
      refine kw_goto X 22 dX7_set_18 (by decide) ?_
      obtain rfl := ti1 hF
      exact J
-- X7_canBorrow
def f_X7_canBorrow (p : Nat → Int32) (p1 : Int32) : Option (Int32) :=
  ob1 (aget 986 p (261 + p1)) (fun a1 => (if a1 < 0 then ob1 (aget 986 p (249 + p1)) (fun a3 => (if a3 < 10 then (some 0) else (some 1))) else (some 0)))
abbrev rm_X7_canBorrow : Room := { frames := 0, cells := 0, slots := 0, locals := 0 }
set_option maxHeartbeats 4000000 in
set_option maxRecDepth 100000 in
theorem c_X7_canBorrow (l : Launch) (D : va_G) (cI cC cR : ClassId) (h0 h1 h2 h3 h4 : Nat) (p : Nat → Int32) (sv : Nat → Int32) (asd : Nat → Int32) (tx : Nat → Int32) (states : Int32) (len : Int32) (at_ : Int32) (letter : Int32) (one : Int32) (two : Int32) (number : Int32) (p1 : Int32) (r : Int32) (hF : f_X7_canBorrow p p1 = some r) : MPi l yX7_canBorrow cX7_canBorrow 2 (some .boolean) rm_X7_canBorrow D (TY cI cC cR) [.ref h0, .int p1] (wX7 cI h0 h1 h2 h3 h4 p sv asd tx states len at_ letter one two number) (.int r) := by
  refine me_p pn_X7 (Nat.le_of_ble_eq_true rfl) rfl (fun Γ X hret => ?_)
  unfold f_X7_canBorrow at hF
  refine kw_aload_n X dX7_canBorrow_0 rfl 0 rfl ?_
  refine kw_get X inX7 0 rfl rfl 0 (by decide) rfl gw_698 rfl dX7_canBorrow_1 ?_
  refine kw_sipush X dX7_canBorrow_4 cs_261 ?_
  refine kw_iload_n X dX7_canBorrow_7 rfl 1 rfl ?_
  refine kw_iadd X dX7_canBorrow_8 ?_
  obtain ⟨a1, hx, hF⟩ := ob1_ex hF
  obtain ⟨hin, hx⟩ := aget_ex hx
  refine kw_iald X 1 0 rfl rfl hin hx dX7_canBorrow_9 ?_
  refine kw_if_ge X 32 dX7_canBorrow_10 (by decide) (fun q2 => ?_) (fun q2 => ?_)
  · replace hF := (if_neg q2).symm.trans hF
    refine kw_iconst X dX7_canBorrow_32 ci_0 ?_
    obtain rfl := si1 hF
    exact hret _ _ _ rfl dX7_canBorrow_33
  · replace hF := (if_pos q2).symm.trans hF
    refine kw_aload_n X dX7_canBorrow_13 rfl 0 rfl ?_
    refine kw_get X inX7 0 rfl rfl 0 (by decide) rfl gw_698 rfl dX7_canBorrow_14 ?_
    refine kw_sipush X dX7_canBorrow_17 cs_249 ?_
    refine kw_iload_n X dX7_canBorrow_20 rfl 1 rfl ?_
    refine kw_iadd X dX7_canBorrow_21 ?_
    obtain ⟨a3, hx, hF⟩ := ob1_ex hF
    obtain ⟨hin, hx⟩ := aget_ex hx
    refine kw_iald X 1 0 rfl rfl hin hx dX7_canBorrow_22 ?_
    refine kw_bipush X dX7_canBorrow_23 cb_10 ?_
    refine kw_icmp_lt X 32 dX7_canBorrow_25 (by decide) (fun q4 => ?_) (fun q4 => ?_)
    · replace hF := (if_pos q4).symm.trans hF
      refine kw_iconst X dX7_canBorrow_32 ci_0 ?_
      obtain rfl := si1 hF
      exact hret _ _ _ rfl dX7_canBorrow_33
    · replace hF := (if_neg q4).symm.trans hF
      refine kw_iconst X dX7_canBorrow_28 ci_1 ?_
      refine kw_goto X 33 dX7_canBorrow_29 (by decide) ?_
      obtain rfl := si1 hF
      exact hret _ _ _ rfl dX7_canBorrow_33
-- X7_whyBorrow
def f_X7_whyBorrow (Z : Nat) (p : Nat → Int32) (p1 : Int32) (p2 : Int32) : Option (Int32) :=
  (if (f_X7_isPerson p1) = 0 then (some (-1)) else (if (f_X7_isStand p2) = 0 then (some (-1)) else (ob1 (f_X7_canBorrow p p1) (fun (b3 : Int32) => (if b3 = 0 then (some (-2)) else (ob1 (f_X7_bestOf Z p p2) (fun (b5 : Int32) => (if b5 < 0 then (some (-2)) else (some 0)))))))))
abbrev rm_X7_whyBorrow : Room := { frames := 2, cells := 0, slots := 0, locals := 47 }
set_option maxHeartbeats 4000000 in
set_option maxRecDepth 100000 in
theorem c_X7_whyBorrow (l : Launch) (D : va_G) (cI cC cR : ClassId) (h0 h1 h2 h3 h4 : Nat) (p : Nat → Int32) (sv : Nat → Int32) (asd : Nat → Int32) (tx : Nat → Int32) (states : Int32) (len : Int32) (at_ : Int32) (letter : Int32) (one : Int32) (two : Int32) (number : Int32) (p1 : Int32) (p2 : Int32) (Z : Nat) (r : Int32) (hF : f_X7_whyBorrow Z p p1 p2 = some r) : MPi l yX7_whyBorrow cX7_whyBorrow 3 (some .int) rm_X7_whyBorrow D (TY cI cC cR) [.ref h0, .int p1, .int p2] (wX7 cI h0 h1 h2 h3 h4 p sv asd tx states len at_ letter one two number) (.int r) := by
  refine me_p pn_X7 (Nat.le_of_ble_eq_true rfl) rfl (fun Γ X hret => ?_)
  unfold f_X7_whyBorrow at hF
  refine kw_iload_n X dX7_whyBorrow_0 rfl 1 rfl ?_
  refine kw_sp X (r := .int (f_X7_isPerson p1)) (As := [.int p1]) (st := []) (c_X7_isPerson l D cI cC cR  p1 (f_X7_isPerson p1) rfl) vl_X7_65 yv_X7_isPerson ⟨Nat.le_of_ble_eq_true rfl, Nat.le_of_ble_eq_true rfl⟩ ⟨rfl, rfl⟩ ⟨Nat.zero_le _, Nat.zero_le _⟩ [] rfl rfl rfl rfl (Nat.le_of_ble_eq_true rfl) dX7_whyBorrow_1 ?_
  refine kw_if_eq X 14 dX7_whyBorrow_4 (by decide) (fun q1 => ?_) (fun q1 => ?_)
  · replace hF := (if_pos q1).symm.trans hF
    refine kw_iconst X dX7_whyBorrow_14 ci_m1 ?_
    obtain rfl := si1 hF
    exact hret _ _ _ (vp_nar_int _) dX7_whyBorrow_15
  · replace hF := (if_neg q1).symm.trans hF
    refine kw_iload_n X dX7_whyBorrow_7 rfl 2 rfl ?_
    refine kw_sp X (r := .int (f_X7_isStand p2)) (As := [.int p2]) (st := []) (c_X7_isStand l D cI cC cR  p2 (f_X7_isStand p2) rfl) vl_X7_45 yv_X7_isStand ⟨Nat.le_of_ble_eq_true rfl, Nat.le_of_ble_eq_true rfl⟩ ⟨rfl, rfl⟩ ⟨Nat.zero_le _, Nat.zero_le _⟩ [] rfl rfl rfl rfl (Nat.le_of_ble_eq_true rfl) dX7_whyBorrow_8 ?_
    refine kw_if_ne X 16 dX7_whyBorrow_11 (by decide) (fun q2 => ?_) (fun q2 => ?_)
    · replace hF := (if_neg q2).symm.trans hF
      refine kw_aload_n X dX7_whyBorrow_16 rfl 0 rfl ?_
      refine kw_iload_n X dX7_whyBorrow_17 rfl 1 rfl ?_
      obtain ⟨b3, hx3, hF⟩ := ob1_ex hF
      refine kw_ap X (r := .int b3) (As := [.int p1]) (st := []) (c_X7_canBorrow l D cI cC cR h0 h1 h2 h3 h4 p sv asd tx states len at_ letter one two number p1 b3 hx3) vl_X7_68 yv_X7_canBorrow ⟨Nat.le_of_ble_eq_true rfl, Nat.le_of_ble_eq_true rfl⟩ ⟨rfl, rfl⟩ ⟨Nat.zero_le _, Nat.zero_le _⟩ 0 rfl rfl rfl rfl (Nat.le_of_ble_eq_true rfl) dX7_whyBorrow_18 ?_
      refine kw_if_eq X 32 dX7_whyBorrow_21 (by decide) (fun q4 => ?_) (fun q4 => ?_)
      · replace hF := (if_pos q4).symm.trans hF
        refine kw_bipush X dX7_whyBorrow_32 cb_m2 ?_
        refine kw_goto X 38 dX7_whyBorrow_34 (by decide) ?_
        obtain rfl := si1 hF
        exact hret _ _ _ (vp_nar_int _) dX7_whyBorrow_38
      · replace hF := (if_neg q4).symm.trans hF
        refine kw_aload_n X dX7_whyBorrow_24 rfl 0 rfl ?_
        refine kw_iload_n X dX7_whyBorrow_25 rfl 2 rfl ?_
        obtain ⟨b5, hx5, hF⟩ := ob1_ex hF
        refine kw_ap X (r := .int b5) (As := [.int p2]) (st := []) (c_X7_bestOf l D cI cC cR h0 h1 h2 h3 h4 p sv asd tx states len at_ letter one two number p2 Z b5 hx5) vl_X7_71 yv_X7_bestOf ⟨Nat.le_of_ble_eq_true rfl, Nat.le_of_ble_eq_true rfl⟩ ⟨rfl, rfl⟩ ⟨Nat.zero_le _, Nat.zero_le _⟩ 0 rfl rfl rfl rfl (Nat.le_of_ble_eq_true rfl) dX7_whyBorrow_26 ?_
        refine kw_if_ge X 37 dX7_whyBorrow_29 (by decide) (fun q6 => ?_) (fun q6 => ?_)
        · replace hF := (if_neg q6).symm.trans hF
          refine kw_iconst X dX7_whyBorrow_37 ci_0 ?_
          obtain rfl := si1 hF
          exact hret _ _ _ (vp_nar_int _) dX7_whyBorrow_38
        · replace hF := (if_pos q6).symm.trans hF
          refine kw_bipush X dX7_whyBorrow_32 cb_m2 ?_
          refine kw_goto X 38 dX7_whyBorrow_34 (by decide) ?_
          obtain rfl := si1 hF
          exact hret _ _ _ (vp_nar_int _) dX7_whyBorrow_38
    · replace hF := (if_pos q2).symm.trans hF
      refine kw_iconst X dX7_whyBorrow_14 ci_m1 ?_
      obtain rfl := si1 hF
      exact hret _ _ _ (vp_nar_int _) dX7_whyBorrow_15
-- X7_borrows
def f_X7_borrows (Z : Nat) (p : Nat → Int32) (p1 : Int32) (p2 : Int32) : Option (Int32 × (Nat → Int32)) :=
  (ob1 (f_X7_bestOf Z p p2) (fun (b1 : Int32) => (ob1 (f_X7_goes p b1 1 p1) (fun (m2 : Nat → Int32) => ob1 (aget 986 m2 (181 + b1)) (fun a3 => ob1 (aset 986 m2 (181 + b1) (a3 + 1)) (fun m4 => ob1 (aset 986 m4 (261 + p1) b1) (fun m5 => ob1 (aget 986 m5 (249 + p1)) (fun a6 => ob1 (aset 986 m5 (249 + p1) (a6 - 10)) (fun m7 => ob1 (aget 986 m7 321) (fun a8 => ob1 (aset 986 m7 321 (a8 + 10)) (fun m9 => ob1 (aset 986 m9 (273 + p1) 0) (fun m10 => ob1 (aset 986 m10 (285 + p1) 0) (fun m11 => ob1 (aget 986 m11 325) (fun a12 => ob1 (aset 986 m11 325 (a12 + 1)) (fun m13 => (some (b1, m13)))))))))))))))))
abbrev rm_X7_borrows : Room := { frames := 2, cells := 0, slots := 0, locals := 47 }
set_option maxHeartbeats 4000000 in
set_option maxRecDepth 100000 in
theorem c_X7_borrows (l : Launch) (D : va_G) (cI cC cR : ClassId) (h0 h1 h2 h3 h4 : Nat) (p : Nat → Int32) (sv : Nat → Int32) (asd : Nat → Int32) (tx : Nat → Int32) (states : Int32) (len : Int32) (at_ : Int32) (letter : Int32) (one : Int32) (two : Int32) (number : Int32) (p1 : Int32) (p2 : Int32) (Z : Nat) (r : Int32) (p' : Nat → Int32) (hF : f_X7_borrows Z p p1 p2 = some (r, p')) : MEq l yX7_borrows cX7_borrows 4 (some .int) rm_X7_borrows D (TY cI cC cR) [.ref h0, .int p1, .int p2] (wX7 cI h0 h1 h2 h3 h4 p sv asd tx states len at_ letter one two number) (wX7 cI h0 h1 h2 h3 h4 p' sv asd tx states len at_ letter one two number) (some (.int r)) := by
  refine me_e pn_X7 (Nat.le_of_ble_eq_true rfl) rfl (fun Γ X E hret => ?_)
  unfold f_X7_borrows at hF
  refine kw_aload_n X dX7_borrows_0 rfl 0 rfl ?_
  refine kw_iload_n X dX7_borrows_1 rfl 2 rfl ?_
  obtain ⟨b1, hx1, hF⟩ := ob1_ex hF
  refine kw_ap X (r := .int b1) (As := [.int p2]) (st := []) (c_X7_bestOf l D cI cC cR h0 h1 h2 h3 h4 p sv asd tx states len at_ letter one two number p2 Z b1 hx1) vl_X7_71 yv_X7_bestOf ⟨Nat.le_of_ble_eq_true rfl, Nat.le_of_ble_eq_true rfl⟩ ⟨rfl, rfl⟩ ⟨Nat.zero_le _, Nat.zero_le _⟩ 0 rfl rfl rfl rfl (Nat.le_of_ble_eq_true rfl) dX7_borrows_2 ?_
  refine kw_istore_n (lo' := [(0, .ref h0), (1, .int p1), (2, .int p2), (3, .int b1)]) X dX7_borrows_5 rfl (by decide) [1, 2, 3, 0] rfl ?_
  refine kw_aload_n X dX7_borrows_6 rfl 0 rfl ?_
  refine kw_iload_n X dX7_borrows_7 rfl 3 rfl ?_
  refine kw_iconst X dX7_borrows_8 ci_1 ?_
  refine kw_iload_n X dX7_borrows_9 rfl 1 rfl ?_
  obtain ⟨m2, hx2, hF⟩ := ob1_ex hF
  refine kw_aev X (As := [.int b1, .int 1, .int p1]) (st := []) E (c_X7_goes l D cI cC cR h0 h1 h2 h3 h4 p sv asd tx states len at_ letter one two number b1 1 p1 m2 hx2) vl_X7_57 yv_X7_goes ⟨Nat.le_of_ble_eq_true rfl, Nat.le_of_ble_eq_true rfl⟩ ⟨rfl, rfl⟩ ⟨Nat.zero_le _, Nat.zero_le _⟩ 0 rfl rfl rfl rfl (Nat.le_of_ble_eq_true rfl) dX7_borrows_10 ?_
  refine kw_aload_n X dX7_borrows_13 rfl 0 rfl ?_
  refine kw_get X inX7 0 rfl rfl 0 (by decide) rfl gw_698 rfl dX7_borrows_14 ?_
  refine kw_sipush X dX7_borrows_17 cs_181 ?_
  refine kw_iload_n X dX7_borrows_20 rfl 3 rfl ?_
  refine kw_iadd X dX7_borrows_21 ?_
  refine kw_dup2 X dX7_borrows_22 rfl rfl ?_
  obtain ⟨a3, hx, hF⟩ := ob1_ex hF
  obtain ⟨hin, hx⟩ := aget_ex hx
  refine kw_iald X 1 0 rfl rfl hin hx dX7_borrows_23 ?_
  refine kw_iconst X dX7_borrows_24 ci_1 ?_
  refine kw_iadd X dX7_borrows_25 ?_
  obtain ⟨m4, hx, hF⟩ := ob1_ex hF
  obtain ⟨hin, hx⟩ := aset_ex hx
  refine kw_iast X E 1 0 rfl rfl hin (ws' := wX7 cI h0 h1 h2 h3 h4 m4 sv asd tx states len at_ letter one two number) (by rw [hx]; rfl) dX7_borrows_26 ?_
  refine kw_aload_n X dX7_borrows_27 rfl 0 rfl ?_
  refine kw_get X inX7 0 rfl rfl 0 (by decide) rfl gw_698 rfl dX7_borrows_28 ?_
  refine kw_sipush X dX7_borrows_31 cs_261 ?_
  refine kw_iload_n X dX7_borrows_34 rfl 1 rfl ?_
  refine kw_iadd X dX7_borrows_35 ?_
  refine kw_iload_n X dX7_borrows_36 rfl 3 rfl ?_
  obtain ⟨m5, hx, hF⟩ := ob1_ex hF
  obtain ⟨hin, hx⟩ := aset_ex hx
  refine kw_iast X E 1 0 rfl rfl hin (ws' := wX7 cI h0 h1 h2 h3 h4 m5 sv asd tx states len at_ letter one two number) (by rw [hx]; rfl) dX7_borrows_37 ?_
  refine kw_aload_n X dX7_borrows_38 rfl 0 rfl ?_
  refine kw_get X inX7 0 rfl rfl 0 (by decide) rfl gw_698 rfl dX7_borrows_39 ?_
  refine kw_sipush X dX7_borrows_42 cs_249 ?_
  refine kw_iload_n X dX7_borrows_45 rfl 1 rfl ?_
  refine kw_iadd X dX7_borrows_46 ?_
  refine kw_dup2 X dX7_borrows_47 rfl rfl ?_
  obtain ⟨a6, hx, hF⟩ := ob1_ex hF
  obtain ⟨hin, hx⟩ := aget_ex hx
  refine kw_iald X 1 0 rfl rfl hin hx dX7_borrows_48 ?_
  refine kw_bipush X dX7_borrows_49 cb_10 ?_
  refine kw_isub X dX7_borrows_51 ?_
  obtain ⟨m7, hx, hF⟩ := ob1_ex hF
  obtain ⟨hin, hx⟩ := aset_ex hx
  refine kw_iast X E 1 0 rfl rfl hin (ws' := wX7 cI h0 h1 h2 h3 h4 m7 sv asd tx states len at_ letter one two number) (by rw [hx]; rfl) dX7_borrows_52 ?_
  refine kw_aload_n X dX7_borrows_53 rfl 0 rfl ?_
  refine kw_get X inX7 0 rfl rfl 0 (by decide) rfl gw_698 rfl dX7_borrows_54 ?_
  refine kw_sipush X dX7_borrows_57 cs_321 ?_
  refine kw_dup2 X dX7_borrows_60 rfl rfl ?_
  obtain ⟨a8, hx, hF⟩ := ob1_ex hF
  obtain ⟨hin, hx⟩ := aget_ex hx
  refine kw_iald X 1 0 rfl rfl hin hx dX7_borrows_61 ?_
  refine kw_bipush X dX7_borrows_62 cb_10 ?_
  refine kw_iadd X dX7_borrows_64 ?_
  obtain ⟨m9, hx, hF⟩ := ob1_ex hF
  obtain ⟨hin, hx⟩ := aset_ex hx
  refine kw_iast X E 1 0 rfl rfl hin (ws' := wX7 cI h0 h1 h2 h3 h4 m9 sv asd tx states len at_ letter one two number) (by rw [hx]; rfl) dX7_borrows_65 ?_
  refine kw_aload_n X dX7_borrows_66 rfl 0 rfl ?_
  refine kw_get X inX7 0 rfl rfl 0 (by decide) rfl gw_698 rfl dX7_borrows_67 ?_
  refine kw_sipush X dX7_borrows_70 cs_273 ?_
  refine kw_iload_n X dX7_borrows_73 rfl 1 rfl ?_
  refine kw_iadd X dX7_borrows_74 ?_
  refine kw_iconst X dX7_borrows_75 ci_0 ?_
  obtain ⟨m10, hx, hF⟩ := ob1_ex hF
  obtain ⟨hin, hx⟩ := aset_ex hx
  refine kw_iast X E 1 0 rfl rfl hin (ws' := wX7 cI h0 h1 h2 h3 h4 m10 sv asd tx states len at_ letter one two number) (by rw [hx]; rfl) dX7_borrows_76 ?_
  refine kw_aload_n X dX7_borrows_77 rfl 0 rfl ?_
  refine kw_get X inX7 0 rfl rfl 0 (by decide) rfl gw_698 rfl dX7_borrows_78 ?_
  refine kw_sipush X dX7_borrows_81 cs_285 ?_
  refine kw_iload_n X dX7_borrows_84 rfl 1 rfl ?_
  refine kw_iadd X dX7_borrows_85 ?_
  refine kw_iconst X dX7_borrows_86 ci_0 ?_
  obtain ⟨m11, hx, hF⟩ := ob1_ex hF
  obtain ⟨hin, hx⟩ := aset_ex hx
  refine kw_iast X E 1 0 rfl rfl hin (ws' := wX7 cI h0 h1 h2 h3 h4 m11 sv asd tx states len at_ letter one two number) (by rw [hx]; rfl) dX7_borrows_87 ?_
  refine kw_aload_n X dX7_borrows_88 rfl 0 rfl ?_
  refine kw_get X inX7 0 rfl rfl 0 (by decide) rfl gw_698 rfl dX7_borrows_89 ?_
  refine kw_sipush X dX7_borrows_92 cs_325 ?_
  refine kw_dup2 X dX7_borrows_95 rfl rfl ?_
  obtain ⟨a12, hx, hF⟩ := ob1_ex hF
  obtain ⟨hin, hx⟩ := aget_ex hx
  refine kw_iald X 1 0 rfl rfl hin hx dX7_borrows_96 ?_
  refine kw_iconst X dX7_borrows_97 ci_1 ?_
  refine kw_iadd X dX7_borrows_98 ?_
  obtain ⟨m13, hx, hF⟩ := ob1_ex hF
  obtain ⟨hin, hx⟩ := aset_ex hx
  refine kw_iast X E 1 0 rfl rfl hin (ws' := wX7 cI h0 h1 h2 h3 h4 m13 sv asd tx states len at_ letter one two number) (by rw [hx]; rfl) dX7_borrows_99 ?_
  refine kw_iload_n X dX7_borrows_100 rfl 3 rfl ?_
  obtain ⟨rfl, rfl⟩ := si2 hF
  exact hret _ _ (vp_nar_int _) dX7_borrows_101
-- X7_borrow
def f_X7_borrow (Z : Nat) (p : Nat → Int32) (sv : Nat → Int32) (states : Int32) (p1 : Int32) (p2 : Int32) : Option (Int32 × (Nat → Int32) × (Nat → Int32) × Int32) :=
  (ob1 (f_X7_whyBorrow Z p p1 p2) (fun (b1 : Int32) => (if b1 < 0 then (some (b1, p, sv, states)) else (ob2 (f_X7_save Z p sv states) (fun (m3 : Nat → Int32) (b4 : Int32) => (ob2 (f_X7_borrows Z p p1 p2) (fun (b5 : Int32) (m6 : Nat → Int32) => (some (b5, m6, m3, b4)))))))))
abbrev rm_X7_borrow : Room := { frames := 3, cells := 0, slots := 0, locals := 70 }
set_option maxHeartbeats 4000000 in
set_option maxRecDepth 100000 in
theorem c_X7_borrow (l : Launch) (D : va_G) (cI cC cR : ClassId) (h0 h1 h2 h3 h4 : Nat) (p : Nat → Int32) (sv : Nat → Int32) (asd : Nat → Int32) (tx : Nat → Int32) (states : Int32) (len : Int32) (at_ : Int32) (letter : Int32) (one : Int32) (two : Int32) (number : Int32) (p1 : Int32) (p2 : Int32) (Z : Nat) (r : Int32) (p' : Nat → Int32) (sv' : Nat → Int32) (states' : Int32) (hF : f_X7_borrow Z p sv states p1 p2 = some (r, p', sv', states')) : MEq l yX7_borrow cX7_borrow 4 (some .int) rm_X7_borrow D (TY cI cC cR) [.ref h0, .int p1, .int p2] (wX7 cI h0 h1 h2 h3 h4 p sv asd tx states len at_ letter one two number) (wX7 cI h0 h1 h2 h3 h4 p' sv' asd tx states' len at_ letter one two number) (some (.int r)) := by
  refine me_e pn_X7 (Nat.le_of_ble_eq_true rfl) rfl (fun Γ X E hret => ?_)
  unfold f_X7_borrow at hF
  refine kw_aload_n X dX7_borrow_0 rfl 0 rfl ?_
  refine kw_iload_n X dX7_borrow_1 rfl 1 rfl ?_
  refine kw_iload_n X dX7_borrow_2 rfl 2 rfl ?_
  obtain ⟨b1, hx1, hF⟩ := ob1_ex hF
  refine kw_ap X (r := .int b1) (As := [.int p1, .int p2]) (st := []) (c_X7_whyBorrow l D cI cC cR h0 h1 h2 h3 h4 p sv asd tx states len at_ letter one two number p1 p2 Z b1 hx1) vl_X7_74 yv_X7_whyBorrow ⟨Nat.le_of_ble_eq_true rfl, Nat.le_of_ble_eq_true rfl⟩ ⟨rfl, rfl⟩ ⟨Nat.zero_le _, Nat.zero_le _⟩ 0 rfl rfl rfl rfl (Nat.le_of_ble_eq_true rfl) dX7_borrow_3 ?_
  refine kw_istore_n (lo' := [(0, .ref h0), (1, .int p1), (2, .int p2), (3, .int b1)]) X dX7_borrow_6 rfl (by decide) [1, 2, 3, 0] rfl ?_
  refine kw_iload_n X dX7_borrow_7 rfl 3 rfl ?_
  refine kw_if_ge X 13 dX7_borrow_8 (by decide) (fun q2 => ?_) (fun q2 => ?_)
  · replace hF := (if_neg q2).symm.trans hF
    refine kw_aload_n X dX7_borrow_13 rfl 0 rfl ?_
    obtain ⟨m3, b4, hx4, hF⟩ := ob2_ex hF
    refine kw_aev X (As := []) (st := []) E (c_X7_save l D cI cC cR h0 h1 h2 h3 h4 p sv asd tx states len at_ letter one two number Z m3 b4 hx4) vl_X7_54 yv_X7_save ⟨Nat.le_of_ble_eq_true rfl, Nat.le_of_ble_eq_true rfl⟩ ⟨rfl, rfl⟩ ⟨Nat.zero_le _, Nat.zero_le _⟩ 0 rfl rfl rfl rfl (Nat.le_of_ble_eq_true rfl) dX7_borrow_14 ?_
    refine kw_aload_n X dX7_borrow_17 rfl 0 rfl ?_
    refine kw_iload_n X dX7_borrow_18 rfl 1 rfl ?_
    refine kw_iload_n X dX7_borrow_19 rfl 2 rfl ?_
    obtain ⟨b5, m6, hx6, hF⟩ := ob2_ex hF
    refine kw_aei X (r := .int b5) (As := [.int p1, .int p2]) (st := []) E (c_X7_borrows l D cI cC cR h0 h1 h2 h3 h4 p m3 asd tx b4 len at_ letter one two number p1 p2 Z b5 m6 hx6) vl_X7_77 yv_X7_borrows ⟨Nat.le_of_ble_eq_true rfl, Nat.le_of_ble_eq_true rfl⟩ ⟨rfl, rfl⟩ ⟨Nat.zero_le _, Nat.zero_le _⟩ 0 rfl rfl rfl rfl (Nat.le_of_ble_eq_true rfl) dX7_borrow_20 ?_
    obtain ⟨rfl, rfl, rfl, rfl⟩ := si4 hF
    exact hret _ _ (vp_nar_int _) dX7_borrow_23
  · replace hF := (if_pos q2).symm.trans hF
    refine kw_iload_n X dX7_borrow_11 rfl 3 rfl ?_
    obtain ⟨rfl, rfl, rfl, rfl⟩ := si4 hF
    exact hret _ _ (vp_nar_int _) dX7_borrow_12
-- X7_fee
def f_X7_fee (p : Nat → Int32) (p1 : Int32) (p2 : Int32) : Option (Int32) :=
  ob1 (aget 986 p 327) (fun a1 => (pl1 (if p2 = 0 then 0 else 4) (fun (x3 : Int32) => (if 10 < ((a1 * p1) + x3) then (some 10) else (some ((a1 * p1) + x3))))))
abbrev rm_X7_fee : Room := { frames := 0, cells := 0, slots := 0, locals := 0 }
set_option maxHeartbeats 4000000 in
set_option maxRecDepth 100000 in
theorem c_X7_fee (l : Launch) (D : va_G) (cI cC cR : ClassId) (h0 h1 h2 h3 h4 : Nat) (p : Nat → Int32) (sv : Nat → Int32) (asd : Nat → Int32) (tx : Nat → Int32) (states : Int32) (len : Int32) (at_ : Int32) (letter : Int32) (one : Int32) (two : Int32) (number : Int32) (p1 : Int32) (p2 : Int32) (r : Int32) (hF : f_X7_fee p p1 p2 = some r) : MPi l yX7_fee cX7_fee 4 (some .int) rm_X7_fee D (TY cI cC cR) [.ref h0, .int p1, .int p2] (wX7 cI h0 h1 h2 h3 h4 p sv asd tx states len at_ letter one two number) (.int r) := by
  refine me_p pn_X7 (Nat.le_of_ble_eq_true rfl) rfl (fun Γ X hret => ?_)
  unfold f_X7_fee at hF
  refine kw_aload_n X dX7_fee_0 rfl 0 rfl ?_
  refine kw_get X inX7 0 rfl rfl 0 (by decide) rfl gw_698 rfl dX7_fee_1 ?_
  refine kw_sipush X dX7_fee_4 cs_327 ?_
  obtain ⟨a1, hx, hF⟩ := ob1_ex hF
  obtain ⟨hin, hx⟩ := aget_ex hx
  refine kw_iald X 1 0 rfl rfl hin hx dX7_fee_7 ?_
  refine kw_iload_n X dX7_fee_8 rfl 1 rfl ?_
  refine kw_imul X dX7_fee_9 ?_
  refine kw_iload_n X dX7_fee_10 rfl 2 rfl ?_
  obtain ⟨x3, hx4, hF⟩ := pl1_ex hF
  have J : KW Γ 0 0 (wX7 cI h0 h1 h2 h3 h4 p sv asd tx states len at_ letter one two number) [] 19 [.int x3, .int (a1 * p1)] := by
    refine kw_iadd X dX7_fee_19 ?_
    refine kw_istore_n (lo' := [(3, .int ((a1 * p1) + x3))]) X dX7_fee_20 rfl (by decide) [0] rfl ?_
    refine kw_iload_n X dX7_fee_21 rfl 0 rfl ?_
    refine kw_bipush X dX7_fee_22 cb_10 ?_
    refine kw_icmp_le X 32 dX7_fee_24 (by decide) (fun q5 => ?_) (fun q5 => ?_)
    · replace hF := (if_neg q5).symm.trans hF
      refine kw_iload_n X dX7_fee_32 rfl 0 rfl ?_
      obtain rfl := si1 hF
      exact hret _ _ _ (vp_nar_int _) dX7_fee_33
    · replace hF := (if_pos q5).symm.trans hF
      refine kw_bipush X dX7_fee_27 cb_10 ?_
      refine kw_goto X 33 dX7_fee_29 (by decide) ?_
      obtain rfl := si1 hF
      exact hret _ _ _ (vp_nar_int _) dX7_fee_33
  replace hF := hx4
  refine kw_if_eq X 18 dX7_fee_11 (by decide) (fun q2 => ?_) (fun q2 => ?_)
  · replace hF := (if_pos q2).symm.trans hF
    refine kw_iconst X dX7_fee_18 ci_0 ?_
    refine kw_loc (lo' := []) [] rfl ?_
    obtain rfl := ti1 hF
    exact J
  · replace hF := (if_neg q2).symm.trans hF
    refine kw_iconst X dX7_fee_14 ci_4 ?_
    refine kw_goto X 19 dX7_fee_15 (by decide) ?_
    refine kw_loc (lo' := []) [] rfl ?_
    obtain rfl := ti1 hF
    exact J
-- X7_whyBring
def f_X7_whyBring (Z : Nat) (p : Nat → Int32) (p1 : Int32) (p2 : Int32) : Option (Int32) :=
  (if (f_X7_isPerson p1) = 0 then (some (-1)) else (if (f_X7_isStand p2) = 0 then (some (-1)) else ob1 (aget 986 p (261 + p1)) (fun a3 => (if a3 < 0 then (some (-2)) else (ob1 (f_X7_roomOf Z p p2) (fun (b5 : Int32) => (if 0 < b5 then (some 0) else (some (-3)))))))))
abbrev rm_X7_whyBring : Room := { frames := 3, cells := 0, slots := 0, locals := 68 }
set_option maxHeartbeats 4000000 in
set_option maxRecDepth 100000 in
theorem c_X7_whyBring (l : Launch) (D : va_G) (cI cC cR : ClassId) (h0 h1 h2 h3 h4 : Nat) (p : Nat → Int32) (sv : Nat → Int32) (asd : Nat → Int32) (tx : Nat → Int32) (states : Int32) (len : Int32) (at_ : Int32) (letter : Int32) (one : Int32) (two : Int32) (number : Int32) (p1 : Int32) (p2 : Int32) (Z : Nat) (r : Int32) (hF : f_X7_whyBring Z p p1 p2 = some r) : MPi l yX7_whyBring cX7_whyBring 3 (some .int) rm_X7_whyBring D (TY cI cC cR) [.ref h0, .int p1, .int p2] (wX7 cI h0 h1 h2 h3 h4 p sv asd tx states len at_ letter one two number) (.int r) := by
  refine me_p pn_X7 (Nat.le_of_ble_eq_true rfl) rfl (fun Γ X hret => ?_)
  unfold f_X7_whyBring at hF
  refine kw_iload_n X dX7_whyBring_0 rfl 1 rfl ?_
  refine kw_sp X (r := .int (f_X7_isPerson p1)) (As := [.int p1]) (st := []) (c_X7_isPerson l D cI cC cR  p1 (f_X7_isPerson p1) rfl) vl_X7_65 yv_X7_isPerson ⟨Nat.le_of_ble_eq_true rfl, Nat.le_of_ble_eq_true rfl⟩ ⟨rfl, rfl⟩ ⟨Nat.zero_le _, Nat.zero_le _⟩ [] rfl rfl rfl rfl (Nat.le_of_ble_eq_true rfl) dX7_whyBring_1 ?_
  refine kw_if_eq X 14 dX7_whyBring_4 (by decide) (fun q1 => ?_) (fun q1 => ?_)
  · replace hF := (if_pos q1).symm.trans hF
    refine kw_iconst X dX7_whyBring_14 ci_m1 ?_
    obtain rfl := si1 hF
    exact hret _ _ _ (vp_nar_int _) dX7_whyBring_15
  · replace hF := (if_neg q1).symm.trans hF
    refine kw_iload_n X dX7_whyBring_7 rfl 2 rfl ?_
    refine kw_sp X (r := .int (f_X7_isStand p2)) (As := [.int p2]) (st := []) (c_X7_isStand l D cI cC cR  p2 (f_X7_isStand p2) rfl) vl_X7_45 yv_X7_isStand ⟨Nat.le_of_ble_eq_true rfl, Nat.le_of_ble_eq_true rfl⟩ ⟨rfl, rfl⟩ ⟨Nat.zero_le _, Nat.zero_le _⟩ [] rfl rfl rfl rfl (Nat.le_of_ble_eq_true rfl) dX7_whyBring_8 ?_
    refine kw_if_ne X 16 dX7_whyBring_11 (by decide) (fun q2 => ?_) (fun q2 => ?_)
    · replace hF := (if_neg q2).symm.trans hF
      refine kw_aload_n X dX7_whyBring_16 rfl 0 rfl ?_
      refine kw_get X inX7 0 rfl rfl 0 (by decide) rfl gw_698 rfl dX7_whyBring_17 ?_
      refine kw_sipush X dX7_whyBring_20 cs_261 ?_
      refine kw_iload_n X dX7_whyBring_23 rfl 1 rfl ?_
      refine kw_iadd X dX7_whyBring_24 ?_
      obtain ⟨a3, hx, hF⟩ := ob1_ex hF
      obtain ⟨hin, hx⟩ := aget_ex hx
      refine kw_iald X 1 0 rfl rfl hin hx dX7_whyBring_25 ?_
      refine kw_if_ge X 34 dX7_whyBring_26 (by decide) (fun q4 => ?_) (fun q4 => ?_)
      · replace hF := (if_neg q4).symm.trans hF
        refine kw_aload_n X dX7_whyBring_34 rfl 0 rfl ?_
        refine kw_iload_n X dX7_whyBring_35 rfl 2 rfl ?_
        obtain ⟨b5, hx5, hF⟩ := ob1_ex hF
        refine kw_ap X (r := .int b5) (As := [.int p2]) (st := []) (c_X7_roomOf l D cI cC cR h0 h1 h2 h3 h4 p sv asd tx states len at_ letter one two number p2 Z b5 hx5) vl_X7_51 yv_X7_roomOf ⟨Nat.le_of_ble_eq_true rfl, Nat.le_of_ble_eq_true rfl⟩ ⟨rfl, rfl⟩ ⟨Nat.zero_le _, Nat.zero_le _⟩ 0 rfl rfl rfl rfl (Nat.le_of_ble_eq_true rfl) dX7_whyBring_36 ?_
        refine kw_if_gt X 47 dX7_whyBring_39 (by decide) (fun q6 => ?_) (fun q6 => ?_)
        · replace hF := (if_pos q6).symm.trans hF
          refine kw_iconst X dX7_whyBring_47 ci_0 ?_
          obtain rfl := si1 hF
          exact hret _ _ _ (vp_nar_int _) dX7_whyBring_48
        · replace hF := (if_neg q6).symm.trans hF
          refine kw_bipush X dX7_whyBring_42 cb_m3 ?_
          refine kw_goto X 48 dX7_whyBring_44 (by decide) ?_
          obtain rfl := si1 hF
          exact hret _ _ _ (vp_nar_int _) dX7_whyBring_48
      · replace hF := (if_pos q4).symm.trans hF
        refine kw_bipush X dX7_whyBring_29 cb_m2 ?_
        refine kw_goto X 48 dX7_whyBring_31 (by decide) ?_
        obtain rfl := si1 hF
        exact hret _ _ _ (vp_nar_int _) dX7_whyBring_48
    · replace hF := (if_pos q2).symm.trans hF
      refine kw_iconst X dX7_whyBring_14 ci_m1 ?_
      obtain rfl := si1 hF
      exact hret _ _ _ (vp_nar_int _) dX7_whyBring_15
-- X7_brings
def f_X7_brings (p : Nat → Int32) (p1 : Int32) (p2 : Int32) : Option (Int32 × (Nat → Int32)) :=
  ob1 (aget 986 p (273 + p1)) (fun a1 => ob1 (aget 986 p (285 + p1)) (fun a2 => (pl1 (if a2 = 1 then 1 else 0) (fun (x4 : Int32) => (ob1 (f_X7_fee p a1 x4) (fun (b6 : Int32) => ob1 (aget 986 p (261 + p1)) (fun a7 => (ob1 (f_X7_goes p a7 0 p2) (fun (m8 : Nat → Int32) => ob1 (aset 986 m8 (261 + p1) (-1)) (fun m9 => ob1 (aset 986 m9 (273 + p1) 0) (fun m10 => ob1 (aset 986 m10 (285 + p1) 0) (fun m11 => ob1 (aset 986 m11 (297 + p1) p2) (fun m12 => ob1 (aget 986 m12 (249 + p1)) (fun a13 => ob1 (aset 986 m12 (249 + p1) (a13 + (10 - b6))) (fun m14 => ob1 (aget 986 m14 321) (fun a15 => ob1 (aset 986 m14 321 (a15 - (10 - b6))) (fun m16 => ob1 (aget 986 m16 (309 + p1)) (fun a17 => ob1 (aset 986 m16 (309 + p1) (a17 + b6)) (fun m18 => ob1 (aget 986 m18 324) (fun a19 => ob1 (aset 986 m18 324 (a19 + b6)) (fun m20 => (some (b6, m20)))))))))))))))))))))))
abbrev rm_X7_brings : Room := { frames := 1, cells := 0, slots := 0, locals := 23 }
set_option maxHeartbeats 4000000 in
set_option maxRecDepth 100000 in
theorem c_X7_brings (l : Launch) (D : va_G) (cI cC cR : ClassId) (h0 h1 h2 h3 h4 : Nat) (p : Nat → Int32) (sv : Nat → Int32) (asd : Nat → Int32) (tx : Nat → Int32) (states : Int32) (len : Int32) (at_ : Int32) (letter : Int32) (one : Int32) (two : Int32) (number : Int32) (p1 : Int32) (p2 : Int32) (r : Int32) (p' : Nat → Int32) (hF : f_X7_brings p p1 p2 = some (r, p')) : MEq l yX7_brings cX7_brings 4 (some .int) rm_X7_brings D (TY cI cC cR) [.ref h0, .int p1, .int p2] (wX7 cI h0 h1 h2 h3 h4 p sv asd tx states len at_ letter one two number) (wX7 cI h0 h1 h2 h3 h4 p' sv asd tx states len at_ letter one two number) (some (.int r)) := by
  refine me_e pn_X7 (Nat.le_of_ble_eq_true rfl) rfl (fun Γ X E hret => ?_)
  unfold f_X7_brings at hF
  refine kw_aload_n X dX7_brings_0 rfl 0 rfl ?_
  refine kw_aload_n X dX7_brings_1 rfl 0 rfl ?_
  refine kw_get X inX7 0 rfl rfl 0 (by decide) rfl gw_698 rfl dX7_brings_2 ?_
  refine kw_sipush X dX7_brings_5 cs_273 ?_
  refine kw_iload_n X dX7_brings_8 rfl 1 rfl ?_
  refine kw_iadd X dX7_brings_9 ?_
  obtain ⟨a1, hx, hF⟩ := ob1_ex hF
  obtain ⟨hin, hx⟩ := aget_ex hx
  refine kw_iald X 1 0 rfl rfl hin hx dX7_brings_10 ?_
  refine kw_aload_n X dX7_brings_11 rfl 0 rfl ?_
  refine kw_get X inX7 0 rfl rfl 0 (by decide) rfl gw_698 rfl dX7_brings_12 ?_
  refine kw_sipush X dX7_brings_15 cs_285 ?_
  refine kw_iload_n X dX7_brings_18 rfl 1 rfl ?_
  refine kw_iadd X dX7_brings_19 ?_
  obtain ⟨a2, hx, hF⟩ := ob1_ex hF
  obtain ⟨hin, hx⟩ := aget_ex hx
  refine kw_iald X 1 0 rfl rfl hin hx dX7_brings_20 ?_
  refine kw_iconst X dX7_brings_21 ci_1 ?_
  obtain ⟨x4, hx5, hF⟩ := pl1_ex hF
  have J : KW Γ 0 0 (wX7 cI h0 h1 h2 h3 h4 p sv asd tx states len at_ letter one two number) [(0, .ref h0), (1, .int p1), (2, .int p2)] 30 [.int x4, .int a1, .ref h0] := by
    obtain ⟨b6, hx6, hF⟩ := ob1_ex hF
    refine kw_ap X (r := .int b6) (As := [.int a1, .int x4]) (st := []) (c_X7_fee l D cI cC cR h0 h1 h2 h3 h4 p sv asd tx states len at_ letter one two number a1 x4 b6 hx6) vl_X7_80 yv_X7_fee ⟨Nat.le_of_ble_eq_true rfl, Nat.le_of_ble_eq_true rfl⟩ ⟨rfl, rfl⟩ ⟨Nat.zero_le _, Nat.zero_le _⟩ 0 rfl rfl rfl rfl (Nat.le_of_ble_eq_true rfl) dX7_brings_30 ?_
    refine kw_istore_n (lo' := [(0, .ref h0), (1, .int p1), (2, .int p2), (3, .int b6)]) X dX7_brings_33 rfl (by decide) [1, 2, 3, 0] rfl ?_
    refine kw_aload_n X dX7_brings_34 rfl 0 rfl ?_
    refine kw_aload_n X dX7_brings_35 rfl 0 rfl ?_
    refine kw_get X inX7 0 rfl rfl 0 (by decide) rfl gw_698 rfl dX7_brings_36 ?_
    refine kw_sipush X dX7_brings_39 cs_261 ?_
    refine kw_iload_n X dX7_brings_42 rfl 1 rfl ?_
    refine kw_iadd X dX7_brings_43 ?_
    obtain ⟨a7, hx, hF⟩ := ob1_ex hF
    obtain ⟨hin, hx⟩ := aget_ex hx
    refine kw_iald X 1 0 rfl rfl hin hx dX7_brings_44 ?_
    refine kw_iconst X dX7_brings_45 ci_0 ?_
    refine kw_iload_n X dX7_brings_46 rfl 2 rfl ?_
    obtain ⟨m8, hx8, hF⟩ := ob1_ex hF
    refine kw_aev X (As := [.int a7, .int 0, .int p2]) (st := []) E (c_X7_goes l D cI cC cR h0 h1 h2 h3 h4 p sv asd tx states len at_ letter one two number a7 0 p2 m8 hx8) vl_X7_57 yv_X7_goes ⟨Nat.le_of_ble_eq_true rfl, Nat.le_of_ble_eq_true rfl⟩ ⟨rfl, rfl⟩ ⟨Nat.zero_le _, Nat.zero_le _⟩ 0 rfl rfl rfl rfl (Nat.le_of_ble_eq_true rfl) dX7_brings_47 ?_
    refine kw_aload_n X dX7_brings_50 rfl 0 rfl ?_
    refine kw_get X inX7 0 rfl rfl 0 (by decide) rfl gw_698 rfl dX7_brings_51 ?_
    refine kw_sipush X dX7_brings_54 cs_261 ?_
    refine kw_iload_n X dX7_brings_57 rfl 1 rfl ?_
    refine kw_iadd X dX7_brings_58 ?_
    refine kw_iconst X dX7_brings_59 ci_m1 ?_
    obtain ⟨m9, hx, hF⟩ := ob1_ex hF
    obtain ⟨hin, hx⟩ := aset_ex hx
    refine kw_iast X E 1 0 rfl rfl hin (ws' := wX7 cI h0 h1 h2 h3 h4 m9 sv asd tx states len at_ letter one two number) (by rw [hx]; rfl) dX7_brings_60 ?_
    refine kw_aload_n X dX7_brings_61 rfl 0 rfl ?_
    refine kw_get X inX7 0 rfl rfl 0 (by decide) rfl gw_698 rfl dX7_brings_62 ?_
    refine kw_sipush X dX7_brings_65 cs_273 ?_
    refine kw_iload_n X dX7_brings_68 rfl 1 rfl ?_
    refine kw_iadd X dX7_brings_69 ?_
    refine kw_iconst X dX7_brings_70 ci_0 ?_
    obtain ⟨m10, hx, hF⟩ := ob1_ex hF
    obtain ⟨hin, hx⟩ := aset_ex hx
    refine kw_iast X E 1 0 rfl rfl hin (ws' := wX7 cI h0 h1 h2 h3 h4 m10 sv asd tx states len at_ letter one two number) (by rw [hx]; rfl) dX7_brings_71 ?_
    refine kw_aload_n X dX7_brings_72 rfl 0 rfl ?_
    refine kw_get X inX7 0 rfl rfl 0 (by decide) rfl gw_698 rfl dX7_brings_73 ?_
    refine kw_sipush X dX7_brings_76 cs_285 ?_
    refine kw_iload_n X dX7_brings_79 rfl 1 rfl ?_
    refine kw_iadd X dX7_brings_80 ?_
    refine kw_iconst X dX7_brings_81 ci_0 ?_
    obtain ⟨m11, hx, hF⟩ := ob1_ex hF
    obtain ⟨hin, hx⟩ := aset_ex hx
    refine kw_iast X E 1 0 rfl rfl hin (ws' := wX7 cI h0 h1 h2 h3 h4 m11 sv asd tx states len at_ letter one two number) (by rw [hx]; rfl) dX7_brings_82 ?_
    refine kw_aload_n X dX7_brings_83 rfl 0 rfl ?_
    refine kw_get X inX7 0 rfl rfl 0 (by decide) rfl gw_698 rfl dX7_brings_84 ?_
    refine kw_sipush X dX7_brings_87 cs_297 ?_
    refine kw_iload_n X dX7_brings_90 rfl 1 rfl ?_
    refine kw_iadd X dX7_brings_91 ?_
    refine kw_iload_n X dX7_brings_92 rfl 2 rfl ?_
    obtain ⟨m12, hx, hF⟩ := ob1_ex hF
    obtain ⟨hin, hx⟩ := aset_ex hx
    refine kw_iast X E 1 0 rfl rfl hin (ws' := wX7 cI h0 h1 h2 h3 h4 m12 sv asd tx states len at_ letter one two number) (by rw [hx]; rfl) dX7_brings_93 ?_
    refine kw_aload_n X dX7_brings_94 rfl 0 rfl ?_
    refine kw_get X inX7 0 rfl rfl 0 (by decide) rfl gw_698 rfl dX7_brings_95 ?_
    refine kw_sipush X dX7_brings_98 cs_249 ?_
    refine kw_iload_n X dX7_brings_101 rfl 1 rfl ?_
    refine kw_iadd X dX7_brings_102 ?_
    refine kw_dup2 X dX7_brings_103 rfl rfl ?_
    obtain ⟨a13, hx, hF⟩ := ob1_ex hF
    obtain ⟨hin, hx⟩ := aget_ex hx
    refine kw_iald X 1 0 rfl rfl hin hx dX7_brings_104 ?_
    refine kw_bipush X dX7_brings_105 cb_10 ?_
    refine kw_iload_n X dX7_brings_107 rfl 3 rfl ?_
    refine kw_isub X dX7_brings_108 ?_
    refine kw_iadd X dX7_brings_109 ?_
    obtain ⟨m14, hx, hF⟩ := ob1_ex hF
    obtain ⟨hin, hx⟩ := aset_ex hx
    refine kw_iast X E 1 0 rfl rfl hin (ws' := wX7 cI h0 h1 h2 h3 h4 m14 sv asd tx states len at_ letter one two number) (by rw [hx]; rfl) dX7_brings_110 ?_
    refine kw_aload_n X dX7_brings_111 rfl 0 rfl ?_
    refine kw_get X inX7 0 rfl rfl 0 (by decide) rfl gw_698 rfl dX7_brings_112 ?_
    refine kw_sipush X dX7_brings_115 cs_321 ?_
    refine kw_dup2 X dX7_brings_118 rfl rfl ?_
    obtain ⟨a15, hx, hF⟩ := ob1_ex hF
    obtain ⟨hin, hx⟩ := aget_ex hx
    refine kw_iald X 1 0 rfl rfl hin hx dX7_brings_119 ?_
    refine kw_bipush X dX7_brings_120 cb_10 ?_
    refine kw_iload_n X dX7_brings_122 rfl 3 rfl ?_
    refine kw_isub X dX7_brings_123 ?_
    refine kw_isub X dX7_brings_124 ?_
    obtain ⟨m16, hx, hF⟩ := ob1_ex hF
    obtain ⟨hin, hx⟩ := aset_ex hx
    refine kw_iast X E 1 0 rfl rfl hin (ws' := wX7 cI h0 h1 h2 h3 h4 m16 sv asd tx states len at_ letter one two number) (by rw [hx]; rfl) dX7_brings_125 ?_
    refine kw_aload_n X dX7_brings_126 rfl 0 rfl ?_
    refine kw_get X inX7 0 rfl rfl 0 (by decide) rfl gw_698 rfl dX7_brings_127 ?_
    refine kw_sipush X dX7_brings_130 cs_309 ?_
    refine kw_iload_n X dX7_brings_133 rfl 1 rfl ?_
    refine kw_iadd X dX7_brings_134 ?_
    refine kw_dup2 X dX7_brings_135 rfl rfl ?_
    obtain ⟨a17, hx, hF⟩ := ob1_ex hF
    obtain ⟨hin, hx⟩ := aget_ex hx
    refine kw_iald X 1 0 rfl rfl hin hx dX7_brings_136 ?_
    refine kw_iload_n X dX7_brings_137 rfl 3 rfl ?_
    refine kw_iadd X dX7_brings_138 ?_
    obtain ⟨m18, hx, hF⟩ := ob1_ex hF
    obtain ⟨hin, hx⟩ := aset_ex hx
    refine kw_iast X E 1 0 rfl rfl hin (ws' := wX7 cI h0 h1 h2 h3 h4 m18 sv asd tx states len at_ letter one two number) (by rw [hx]; rfl) dX7_brings_139 ?_
    refine kw_aload_n X dX7_brings_140 rfl 0 rfl ?_
    refine kw_get X inX7 0 rfl rfl 0 (by decide) rfl gw_698 rfl dX7_brings_141 ?_
    refine kw_sipush X dX7_brings_144 cs_324 ?_
    refine kw_dup2 X dX7_brings_147 rfl rfl ?_
    obtain ⟨a19, hx, hF⟩ := ob1_ex hF
    obtain ⟨hin, hx⟩ := aget_ex hx
    refine kw_iald X 1 0 rfl rfl hin hx dX7_brings_148 ?_
    refine kw_iload_n X dX7_brings_149 rfl 3 rfl ?_
    refine kw_iadd X dX7_brings_150 ?_
    obtain ⟨m20, hx, hF⟩ := ob1_ex hF
    obtain ⟨hin, hx⟩ := aset_ex hx
    refine kw_iast X E 1 0 rfl rfl hin (ws' := wX7 cI h0 h1 h2 h3 h4 m20 sv asd tx states len at_ letter one two number) (by rw [hx]; rfl) dX7_brings_151 ?_
    refine kw_iload_n X dX7_brings_152 rfl 3 rfl ?_
    obtain ⟨rfl, rfl⟩ := si2 hF
    exact hret _ _ (vp_nar_int _) dX7_brings_153
  replace hF := hx5
  refine kw_icmp_ne X 29 dX7_brings_22 (by decide) (fun q3 => ?_) (fun q3 => ?_)
  · replace hF := (if_neg q3).symm.trans hF
    refine kw_iconst X dX7_brings_29 ci_0 ?_
    obtain rfl := ti1 hF
    exact J
  · replace hF := (if_pos q3).symm.trans hF
    refine kw_iconst X dX7_brings_25 ci_1 ?_
    refine kw_goto X 30 dX7_brings_26 (by decide) ?_
    obtain rfl := ti1 hF
    exact J
-- X7_bringBack
def f_X7_bringBack (Z : Nat) (p : Nat → Int32) (sv : Nat → Int32) (states : Int32) (p1 : Int32) (p2 : Int32) : Option (Int32 × (Nat → Int32) × (Nat → Int32) × Int32) :=
  (ob1 (f_X7_whyBring Z p p1 p2) (fun (b1 : Int32) => (if b1 < 0 then (some (b1, p, sv, states)) else (ob2 (f_X7_save Z p sv states) (fun (m3 : Nat → Int32) (b4 : Int32) => (ob2 (f_X7_brings p p1 p2) (fun (b5 : Int32) (m6 : Nat → Int32) => (some (b5, m6, m3, b4)))))))))
abbrev rm_X7_bringBack : Room := { frames := 4, cells := 0, slots := 0, locals := 90 }
set_option maxHeartbeats 4000000 in
set_option maxRecDepth 100000 in
theorem c_X7_bringBack (l : Launch) (D : va_G) (cI cC cR : ClassId) (h0 h1 h2 h3 h4 : Nat) (p : Nat → Int32) (sv : Nat → Int32) (asd : Nat → Int32) (tx : Nat → Int32) (states : Int32) (len : Int32) (at_ : Int32) (letter : Int32) (one : Int32) (two : Int32) (number : Int32) (p1 : Int32) (p2 : Int32) (Z : Nat) (r : Int32) (p' : Nat → Int32) (sv' : Nat → Int32) (states' : Int32) (hF : f_X7_bringBack Z p sv states p1 p2 = some (r, p', sv', states')) : MEq l yX7_bringBack cX7_bringBack 4 (some .int) rm_X7_bringBack D (TY cI cC cR) [.ref h0, .int p1, .int p2] (wX7 cI h0 h1 h2 h3 h4 p sv asd tx states len at_ letter one two number) (wX7 cI h0 h1 h2 h3 h4 p' sv' asd tx states' len at_ letter one two number) (some (.int r)) := by
  refine me_e pn_X7 (Nat.le_of_ble_eq_true rfl) rfl (fun Γ X E hret => ?_)
  unfold f_X7_bringBack at hF
  refine kw_aload_n X dX7_bringBack_0 rfl 0 rfl ?_
  refine kw_iload_n X dX7_bringBack_1 rfl 1 rfl ?_
  refine kw_iload_n X dX7_bringBack_2 rfl 2 rfl ?_
  obtain ⟨b1, hx1, hF⟩ := ob1_ex hF
  refine kw_ap X (r := .int b1) (As := [.int p1, .int p2]) (st := []) (c_X7_whyBring l D cI cC cR h0 h1 h2 h3 h4 p sv asd tx states len at_ letter one two number p1 p2 Z b1 hx1) vl_X7_84 yv_X7_whyBring ⟨Nat.le_of_ble_eq_true rfl, Nat.le_of_ble_eq_true rfl⟩ ⟨rfl, rfl⟩ ⟨Nat.zero_le _, Nat.zero_le _⟩ 0 rfl rfl rfl rfl (Nat.le_of_ble_eq_true rfl) dX7_bringBack_3 ?_
  refine kw_istore_n (lo' := [(0, .ref h0), (1, .int p1), (2, .int p2), (3, .int b1)]) X dX7_bringBack_6 rfl (by decide) [1, 2, 3, 0] rfl ?_
  refine kw_iload_n X dX7_bringBack_7 rfl 3 rfl ?_
  refine kw_if_ge X 13 dX7_bringBack_8 (by decide) (fun q2 => ?_) (fun q2 => ?_)
  · replace hF := (if_neg q2).symm.trans hF
    refine kw_aload_n X dX7_bringBack_13 rfl 0 rfl ?_
    obtain ⟨m3, b4, hx4, hF⟩ := ob2_ex hF
    refine kw_aev X (As := []) (st := []) E (c_X7_save l D cI cC cR h0 h1 h2 h3 h4 p sv asd tx states len at_ letter one two number Z m3 b4 hx4) vl_X7_54 yv_X7_save ⟨Nat.le_of_ble_eq_true rfl, Nat.le_of_ble_eq_true rfl⟩ ⟨rfl, rfl⟩ ⟨Nat.zero_le _, Nat.zero_le _⟩ 0 rfl rfl rfl rfl (Nat.le_of_ble_eq_true rfl) dX7_bringBack_14 ?_
    refine kw_aload_n X dX7_bringBack_17 rfl 0 rfl ?_
    refine kw_iload_n X dX7_bringBack_18 rfl 1 rfl ?_
    refine kw_iload_n X dX7_bringBack_19 rfl 2 rfl ?_
    obtain ⟨b5, m6, hx6, hF⟩ := ob2_ex hF
    refine kw_aei X (r := .int b5) (As := [.int p1, .int p2]) (st := []) E (c_X7_brings l D cI cC cR h0 h1 h2 h3 h4 p m3 asd tx b4 len at_ letter one two number p1 p2 b5 m6 hx6) vl_X7_87 yv_X7_brings ⟨Nat.le_of_ble_eq_true rfl, Nat.le_of_ble_eq_true rfl⟩ ⟨rfl, rfl⟩ ⟨Nat.zero_le _, Nat.zero_le _⟩ 0 rfl rfl rfl rfl (Nat.le_of_ble_eq_true rfl) dX7_bringBack_20 ?_
    obtain ⟨rfl, rfl, rfl, rfl⟩ := si4 hF
    exact hret _ _ (vp_nar_int _) dX7_bringBack_23
  · replace hF := (if_pos q2).symm.trans hF
    refine kw_iload_n X dX7_bringBack_11 rfl 3 rfl ?_
    obtain ⟨rfl, rfl, rfl, rfl⟩ := si4 hF
    exact hret _ _ (vp_nar_int _) dX7_bringBack_12
-- X7_worn
def f_X7_worn (p1 : Int32) (p2 : Int32) (p3 : Int32) : Int32 :=
  (pl1 (if p1 < 16 then 1 else 2) (fun (x2 : Int32) => (if 64 < ((p1 + (x2 * p2)) + (2 * p3)) then 64 else ((p1 + (x2 * p2)) + (2 * p3)))))
abbrev rm_X7_worn : Room := { frames := 0, cells := 0, slots := 0, locals := 0 }
set_option maxHeartbeats 4000000 in
set_option maxRecDepth 100000 in
theorem c_X7_worn (l : Launch) (D : va_G) (cI cC cR : ClassId) (p1 : Int32) (p2 : Int32) (p3 : Int32) (r : Int32) (hF : f_X7_worn p1 p2 p3 = r) : MPi l yX7_worn cX7_worn 4 (some .int) rm_X7_worn D (TY cI cC cR) [.int p1, .int p2, .int p3] ([]) (.int r) := by
  refine me_p pn_X7 (Nat.le_of_ble_eq_true rfl) rfl (fun Γ X hret => ?_)
  unfold f_X7_worn at hF
  refine kw_iload_n X dX7_worn_0 rfl 0 rfl ?_
  refine kw_iload_n X dX7_worn_1 rfl 0 rfl ?_
  refine kw_bipush X dX7_worn_2 cb_16 ?_
  obtain ⟨x2, hx3, hF⟩ := pl1_ex hF
  have J : KW Γ 0 0 ([]) [(1, .int p2), (2, .int p3)] 12 [.int x2, .int p1] := by
    refine kw_iload_n X dX7_worn_12 rfl 0 rfl ?_
    refine kw_imul X dX7_worn_13 ?_
    refine kw_iadd X dX7_worn_14 ?_
    refine kw_iconst X dX7_worn_15 ci_2 ?_
    refine kw_iload_n X dX7_worn_16 rfl 1 rfl ?_
    refine kw_imul X dX7_worn_17 ?_
    refine kw_iadd X dX7_worn_18 ?_
    refine kw_istore_n (lo' := [(1, .int p2), (2, .int p3), (3, .int ((p1 + (x2 * p2)) + (2 * p3)))]) X dX7_worn_19 rfl (by decide) [1, 2, 0] rfl ?_
    refine kw_iload_n X dX7_worn_20 rfl 2 rfl ?_
    refine kw_bipush X dX7_worn_21 cb_64 ?_
    refine kw_icmp_le X 31 dX7_worn_23 (by decide) (fun q4 => ?_) (fun q4 => ?_)
    · replace hF := (if_neg q4).symm.trans hF
      refine kw_iload_n X dX7_worn_31 rfl 2 rfl ?_
      obtain rfl := ti1 hF
      exact hret _ _ _ (vp_nar_int _) dX7_worn_32
    · replace hF := (if_pos q4).symm.trans hF
      refine kw_bipush X dX7_worn_26 cb_64 ?_
      refine kw_goto X 32 dX7_worn_28 (by decide) ?_
      obtain rfl := ti1 hF
      exact hret _ _ _ (vp_nar_int _) dX7_worn_32
  replace hF := hx3
  refine kw_icmp_ge X 11 dX7_worn_4 (by decide) (fun q1 => ?_) (fun q1 => ?_)
  · replace hF := (if_neg q1).symm.trans hF
    refine kw_iconst X dX7_worn_11 ci_2 ?_
    refine kw_loc (lo' := [(1, .int p2), (2, .int p3)]) [1, 2] rfl ?_
    obtain rfl := ti1 hF
    exact J
  · replace hF := (if_pos q1).symm.trans hF
    refine kw_iconst X dX7_worn_7 ci_1 ?_
    refine kw_goto X 12 dX7_worn_8 (by decide) ?_
    refine kw_loc (lo' := [(1, .int p2), (2, .int p3)]) [1, 2] rfl ?_
    obtain rfl := ti1 hF
    exact J
-- X7_passes
def f_X7_passes_L199 (Z : Nat) : Nat → Int32 → (Nat → Int32) → Option ((Nat → Int32))
  | 0, _, _ => none
  | F + 1, v4_224, w225 => (if v4_224 < 12 then (ob1 (f_X7_canBorrow w225 v4_224) (fun (b227 : Int32) => (ob1 (if b227 = 0 then (some w225) else ob1 (aget 986 w225 (297 + v4_224)) (fun a237 => (ob1 (f_X7_bestOf Z w225 a237) (fun (b238 : Int32) => (if b238 < 0 then (some w225) else ob1 (aget 986 w225 (297 + v4_224)) (fun a240 => (ob2 (f_X7_borrows Z w225 v4_224 a240) (fun (b241 : Int32) (m242 : Nat → Int32) => (some m242))))))))) (fun (w235 : Nat → Int32) => (f_X7_passes_L199 Z F (v4_224 + 1) w235))))) else (some (w225)))
def f_X7_passes_L17 (p1 : Int32) (p2 : Int32) : Nat → Int32 → Int32 → (Nat → Int32) → Option (Int32 × (Nat → Int32))
  | 0, _, _, _ => none
  | F + 1, v3_243, v4_244, w245 => (if v4_244 < 12 then ob1 (aget 986 w245 (261 + v4_244)) (fun a247 => (ob2 (if a247 < 0 then (some (v3_243, w245)) else ob1 (aget 986 w245 (261 + v4_244)) (fun a278 => (ob1 (f_X7_isBroken w245 a278) (fun (b279 : Int32) => ob1 (aget 986 w245 (121 + a278)) (fun a280 => ob1 (aset 986 w245 (121 + a278) (f_X7_worn a280 p1 p2)) (fun m281 => ob1 (aget 986 m281 (273 + v4_244)) (fun a282 => (pl1 (if p1 < 2 then 0 else 1) (fun (x284 : Int32) => ob1 (aset 986 m281 (273 + v4_244) (a282 + x284)) (fun m286 => (ob1 (if b279 = 0 then (ob1 (f_X7_isBroken m286 a278) (fun (b302 : Int32) => (if b302 = 0 then (some 0) else (some 1)))) else (some 0)) (fun (x291 : Int32) => (ob1 (if x291 = 0 then ob1 (aget 986 m286 (285 + v4_244)) (fun a301 => (some a301)) else (some 1)) (fun (x295 : Int32) => ob1 (aset 986 m286 (285 + v4_244) x295) (fun m297 => (pl1 (if x291 = 0 then 0 else 1) (fun (x299 : Int32) => (some ((v3_243 + x299), m297))))))))))))))))))) (fun (v3_275 : Int32) (w276 : Nat → Int32) => (f_X7_passes_L17 p1 p2 F v3_275 (v4_244 + 1) w276)))) else (some (v3_243, w245)))
def f_X7_passes (Z : Nat) (p : Nat → Int32) (p1 : Int32) (p2 : Int32) : Option (Int32 × (Nat → Int32)) :=
  ob1 (aget 986 p 322) (fun a1 => ob1 (aset 986 p 322 (a1 + 1)) (fun m2 => (ob2 (f_X7_passes_L17 p1 p2 Z 0 0 m2) (fun (e122 : Int32) (w123 : Nat → Int32) => (ob1 (if p1 < 5 then (some w123) else ob1 (aget 986 w123 326) (fun a185 => ob1 (aset 986 w123 326 (a185 + 1)) (fun m186 => (ob1 (f_X7_passes_L199 Z Z 0 m186) (fun (w223 : Nat → Int32) => (some w223)))))) (fun (w183 : Nat → Int32) => (some (e122, w183))))))))
abbrev rm_X7_passes : Room := { frames := 3, cells := 0, slots := 0, locals := 70 }
set_option maxHeartbeats 4000000 in
set_option maxRecDepth 100000 in
theorem c_X7_passes (l : Launch) (D : va_G) (cI cC cR : ClassId) (h0 h1 h2 h3 h4 : Nat) (p : Nat → Int32) (sv : Nat → Int32) (asd : Nat → Int32) (tx : Nat → Int32) (states : Int32) (len : Int32) (at_ : Int32) (letter : Int32) (one : Int32) (two : Int32) (number : Int32) (p1 : Int32) (p2 : Int32) (Z : Nat) (r : Int32) (p' : Nat → Int32) (hF : f_X7_passes Z p p1 p2 = some (r, p')) : MEq l yX7_passes cX7_passes 8 (some .int) rm_X7_passes D (TY cI cC cR) [.ref h0, .int p1, .int p2] (wX7 cI h0 h1 h2 h3 h4 p sv asd tx states len at_ letter one two number) (wX7 cI h0 h1 h2 h3 h4 p' sv asd tx states len at_ letter one two number) (some (.int r)) := by
  refine me_e pn_X7 (Nat.le_of_ble_eq_true rfl) rfl (fun Γ X E hret => ?_)
  unfold f_X7_passes at hF
  refine kw_iconst X dX7_passes_0 ci_0 ?_
  refine kw_istore_n (lo' := [(0, .ref h0), (1, .int p1), (2, .int p2), (3, .int 0)]) X dX7_passes_1 rfl (by decide) [1, 2, 3, 0] rfl ?_
  refine kw_aload_n X dX7_passes_2 rfl 0 rfl ?_
  refine kw_get X inX7 0 rfl rfl 0 (by decide) rfl gw_698 rfl dX7_passes_3 ?_
  refine kw_sipush X dX7_passes_6 cs_322 ?_
  refine kw_dup2 X dX7_passes_9 rfl rfl ?_
  obtain ⟨a1, hx, hF⟩ := ob1_ex hF
  obtain ⟨hin, hx⟩ := aget_ex hx
  refine kw_iald X 1 0 rfl rfl hin hx dX7_passes_10 ?_
  refine kw_iconst X dX7_passes_11 ci_1 ?_
  refine kw_iadd X dX7_passes_12 ?_
  obtain ⟨m2, hx, hF⟩ := ob1_ex hF
  obtain ⟨hin, hx⟩ := aset_ex hx
  refine kw_iast X E 1 0 rfl rfl hin (ws' := wX7 cI h0 h1 h2 h3 h4 m2 sv asd tx states len at_ letter one two number) (by rw [hx]; rfl) dX7_passes_13 ?_
  refine kw_iconst X dX7_passes_14 ci_0 ?_
  refine kw_istore (lo' := [(0, .ref h0), (1, .int p1), (2, .int p2), (3, .int 0), (4, .int 0)]) X dX7_passes_15 (by decide) [1, 2, 3, 4, 0] rfl ?_
  obtain ⟨e122, w123, hx, hF⟩ := ob2_ex hF
  have J : KW Γ 0 0 (wX7 cI h0 h1 h2 h3 h4 w123 sv asd tx states len at_ letter one two number) [(0, .ref h0), (1, .int p1), (3, .int e122)] 179 [] := by
    refine kw_iload_n X dX7_passes_179 rfl 1 rfl ?_
    refine kw_iconst X dX7_passes_180 ci_5 ?_
    obtain ⟨w183, hx184, hF⟩ := ob1_ex hF
    have J : KW Γ 0 0 (wX7 cI h0 h1 h2 h3 h4 w183 sv asd tx states len at_ letter one two number) [(3, .int e122)] 258 [] := by
      refine kw_iload_n X dX7_passes_258 rfl 0 rfl ?_
      obtain ⟨rfl, rfl⟩ := si2 hF
      exact hret _ _ (vp_nar_int _) dX7_passes_259
    replace hF := hx184
    refine kw_icmp_lt X 258 dX7_passes_181 (by decide) (fun q124 => ?_) (fun q124 => ?_)
    · replace hF := (if_pos q124).symm.trans hF
      refine kw_loc (lo' := [(3, .int e122)]) [2] rfl ?_
      obtain rfl := si1 hF
      exact J
    · replace hF := (if_neg q124).symm.trans hF
      refine kw_aload_n X dX7_passes_184 rfl 0 rfl ?_
      refine kw_get X inX7 0 rfl rfl 0 (by decide) rfl gw_698 rfl dX7_passes_185 ?_
      refine kw_sipush X dX7_passes_188 cs_326 ?_
      refine kw_dup2 X dX7_passes_191 rfl rfl ?_
      obtain ⟨a185, hx, hF⟩ := ob1_ex hF
      obtain ⟨hin, hx⟩ := aget_ex hx
      refine kw_iald X 1 0 rfl rfl hin hx dX7_passes_192 ?_
      refine kw_iconst X dX7_passes_193 ci_1 ?_
      refine kw_iadd X dX7_passes_194 ?_
      obtain ⟨m186, hx, hF⟩ := ob1_ex hF
      obtain ⟨hin, hx⟩ := aset_ex hx
      refine kw_iast X E 1 0 rfl rfl hin (ws' := wX7 cI h0 h1 h2 h3 h4 m186 sv asd tx states len at_ letter one two number) (by rw [hx]; rfl) dX7_passes_195 ?_
      refine kw_iconst X dX7_passes_196 ci_0 ?_
      refine kw_istore (lo' := [(0, .ref h0), (1, .int p1), (3, .int e122), (4, .int 0)]) X dX7_passes_197 (by decide) [1, 2, 3, 0] rfl ?_
      refine kw_loc (lo' := [(0, .ref h0), (3, .int e122), (4, .int 0)]) [0, 2, 3] rfl ?_
      obtain ⟨w223, hx, hF⟩ := ob1_ex hF
      have J : KW Γ 0 0 (wX7 cI h0 h1 h2 h3 h4 w223 sv asd tx states len at_ letter one two number) [(3, .int e122)] 258 [] := by
        obtain rfl := si1 hF
        exact J
      have hL199 : ∀ (F : Nat) (v4_224 : Int32) (w225 : Nat → Int32), f_X7_passes_L199 Z F v4_224 w225 = some (w223) → KW Γ 0 0 (wX7 cI h0 h1 h2 h3 h4 w225 sv asd tx states len at_ letter one two number) [(0, .ref h0), (3, .int e122), (4, .int v4_224)] 199 [] := by
        intro F
        induction F with
        | zero => intro v4_224 w225 hF; exact none_some hF
        | succ F ih199 =>
          intro v4_224 w225 hF
          rw [f_X7_passes_L199] at hF
          refine kw_iload X dX7_passes_199 2 rfl ?_
          refine kw_bipush X dX7_passes_201 cb_12 ?_
          refine kw_icmp_ge X 258 dX7_passes_203 (by decide) (fun q226 => ?_) (fun q226 => ?_)
          · replace hF := (if_neg q226).symm.trans hF
            refine kw_loc (lo' := [(3, .int e122)]) [1] rfl ?_
            obtain rfl := si1 hF
            exact J
          · replace hF := (if_pos q226).symm.trans hF
            refine kw_aload_n X dX7_passes_206 rfl 0 rfl ?_
            refine kw_iload X dX7_passes_207 2 rfl ?_
            obtain ⟨b227, hx227, hF⟩ := ob1_ex hF
            refine kw_ap X (r := .int b227) (As := [.int v4_224]) (st := []) (c_X7_canBorrow l D cI cC cR h0 h1 h2 h3 h4 w225 sv asd tx states len at_ letter one two number v4_224 b227 hx227) vl_X7_68 yv_X7_canBorrow ⟨Nat.le_of_ble_eq_true rfl, Nat.le_of_ble_eq_true rfl⟩ ⟨rfl, rfl⟩ ⟨Nat.zero_le _, Nat.zero_le _⟩ 0 rfl rfl rfl rfl (Nat.le_of_ble_eq_true rfl) dX7_passes_209 ?_
            obtain ⟨w235, hx236, hF⟩ := ob1_ex hF
            have J : KW Γ 0 0 (wX7 cI h0 h1 h2 h3 h4 w235 sv asd tx states len at_ letter one two number) [(0, .ref h0), (3, .int e122), (4, .int v4_224)] 252 [] := by
              refine kw_iinc (lo' := [(0, .ref h0), (3, .int e122), (4, .int (v4_224 + 1))]) X dX7_passes_252 2 rfl (congrArg (fun w => v4_224 + w) ci_1) (by decide) [1, 2, 0] rfl ?_
              refine kw_goto X 199 dX7_passes_255 (by decide) ?_
              exact ih199 _ _ hF
            replace hF := hx236
            refine kw_if_eq X 252 dX7_passes_212 (by decide) (fun q228 => ?_) (fun q228 => ?_)
            · replace hF := (if_pos q228).symm.trans hF
              obtain rfl := si1 hF
              exact J
            · replace hF := (if_neg q228).symm.trans hF
              refine kw_aload_n X dX7_passes_215 rfl 0 rfl ?_
              refine kw_aload_n X dX7_passes_216 rfl 0 rfl ?_
              refine kw_get X inX7 0 rfl rfl 0 (by decide) rfl gw_698 rfl dX7_passes_217 ?_
              refine kw_sipush X dX7_passes_220 cs_297 ?_
              refine kw_iload X dX7_passes_223 2 rfl ?_
              refine kw_iadd X dX7_passes_225 ?_
              obtain ⟨a237, hx, hF⟩ := ob1_ex hF
              obtain ⟨hin, hx⟩ := aget_ex hx
              refine kw_iald X 1 0 rfl rfl hin hx dX7_passes_226 ?_
              obtain ⟨b238, hx238, hF⟩ := ob1_ex hF
              refine kw_ap X (r := .int b238) (As := [.int a237]) (st := []) (c_X7_bestOf l D cI cC cR h0 h1 h2 h3 h4 w225 sv asd tx states len at_ letter one two number a237 Z b238 hx238) vl_X7_71 yv_X7_bestOf ⟨Nat.le_of_ble_eq_true rfl, Nat.le_of_ble_eq_true rfl⟩ ⟨rfl, rfl⟩ ⟨Nat.zero_le _, Nat.zero_le _⟩ 0 rfl rfl rfl rfl (Nat.le_of_ble_eq_true rfl) dX7_passes_227 ?_
              refine kw_if_lt X 252 dX7_passes_230 (by decide) (fun q239 => ?_) (fun q239 => ?_)
              · replace hF := (if_pos q239).symm.trans hF
                obtain rfl := si1 hF
                exact J
              · replace hF := (if_neg q239).symm.trans hF
                refine kw_aload_n X dX7_passes_233 rfl 0 rfl ?_
                refine kw_iload X dX7_passes_234 2 rfl ?_
                refine kw_aload_n X dX7_passes_236 rfl 0 rfl ?_
                refine kw_get X inX7 0 rfl rfl 0 (by decide) rfl gw_698 rfl dX7_passes_237 ?_
                refine kw_sipush X dX7_passes_240 cs_297 ?_
                refine kw_iload X dX7_passes_243 2 rfl ?_
                refine kw_iadd X dX7_passes_245 ?_
                obtain ⟨a240, hx, hF⟩ := ob1_ex hF
                obtain ⟨hin, hx⟩ := aget_ex hx
                refine kw_iald X 1 0 rfl rfl hin hx dX7_passes_246 ?_
                obtain ⟨b241, m242, hx242, hF⟩ := ob2_ex hF
                refine kw_aei X (r := .int b241) (As := [.int v4_224, .int a240]) (st := []) E (c_X7_borrows l D cI cC cR h0 h1 h2 h3 h4 w225 sv asd tx states len at_ letter one two number v4_224 a240 Z b241 m242 hx242) vl_X7_77 yv_X7_borrows ⟨Nat.le_of_ble_eq_true rfl, Nat.le_of_ble_eq_true rfl⟩ ⟨rfl, rfl⟩ ⟨Nat.zero_le _, Nat.zero_le _⟩ 0 rfl rfl rfl rfl (Nat.le_of_ble_eq_true rfl) dX7_passes_247 ?_
                refine kw_istore (lo' := [(0, .ref h0), (3, .int e122), (4, .int v4_224), (5, .int b241)]) X dX7_passes_250 (by decide) [1, 2, 3, 0] rfl ?_
                refine kw_loc (lo' := [(0, .ref h0), (3, .int e122), (4, .int v4_224)]) [0, 1, 2] rfl ?_
                obtain rfl := si1 hF
                exact J
      exact hL199 Z _ _ hx
  have hL17 : ∀ (F : Nat) (v3_243 : Int32) (v4_244 : Int32) (w245 : Nat → Int32), f_X7_passes_L17 p1 p2 F v3_243 v4_244 w245 = some (e122, w123) → KW Γ 0 0 (wX7 cI h0 h1 h2 h3 h4 w245 sv asd tx states len at_ letter one two number) [(0, .ref h0), (1, .int p1), (2, .int p2), (3, .int v3_243), (4, .int v4_244)] 17 [] := by
    intro F
    induction F with
    | zero => intro v3_243 v4_244 w245 hF; exact none_some hF
    | succ F ih17 =>
      intro v3_243 v4_244 w245 hF
      rw [f_X7_passes_L17] at hF
      refine kw_iload X dX7_passes_17 4 rfl ?_
      refine kw_bipush X dX7_passes_19 cb_12 ?_
      refine kw_icmp_ge X 179 dX7_passes_21 (by decide) (fun q246 => ?_) (fun q246 => ?_)
      · replace hF := (if_neg q246).symm.trans hF
        refine kw_loc (lo' := [(0, .ref h0), (1, .int p1), (3, .int v3_243)]) [0, 1, 3] rfl ?_
        obtain ⟨rfl, rfl⟩ := si2 hF
        exact J
      · replace hF := (if_pos q246).symm.trans hF
        refine kw_aload_n X dX7_passes_24 rfl 0 rfl ?_
        refine kw_get X inX7 0 rfl rfl 0 (by decide) rfl gw_698 rfl dX7_passes_25 ?_
        refine kw_sipush X dX7_passes_28 cs_261 ?_
        refine kw_iload X dX7_passes_31 4 rfl ?_
        refine kw_iadd X dX7_passes_33 ?_
        obtain ⟨a247, hx, hF⟩ := ob1_ex hF
        obtain ⟨hin, hx⟩ := aget_ex hx
        refine kw_iald X 1 0 rfl rfl hin hx dX7_passes_34 ?_
        obtain ⟨v3_275, w276, hx277, hF⟩ := ob2_ex hF
        have J : KW Γ 0 0 (wX7 cI h0 h1 h2 h3 h4 w276 sv asd tx states len at_ letter one two number) [(0, .ref h0), (1, .int p1), (2, .int p2), (3, .int v3_275), (4, .int v4_244)] 173 [] := by
          refine kw_iinc (lo' := [(0, .ref h0), (1, .int p1), (2, .int p2), (3, .int v3_275), (4, .int (v4_244 + 1))]) X dX7_passes_173 4 rfl (congrArg (fun w => v4_244 + w) ci_1) (by decide) [1, 2, 3, 4, 0] rfl ?_
          refine kw_goto X 17 dX7_passes_176 (by decide) ?_
          exact ih17 _ _ _ hF
        replace hF := hx277
        refine kw_if_lt X 173 dX7_passes_35 (by decide) (fun q248 => ?_) (fun q248 => ?_)
        · replace hF := (if_pos q248).symm.trans hF
          obtain ⟨rfl, rfl⟩ := si2 hF
          exact J
        · replace hF := (if_neg q248).symm.trans hF
          refine kw_aload_n X dX7_passes_38 rfl 0 rfl ?_
          refine kw_get X inX7 0 rfl rfl 0 (by decide) rfl gw_698 rfl dX7_passes_39 ?_
          refine kw_sipush X dX7_passes_42 cs_261 ?_
          refine kw_iload X dX7_passes_45 4 rfl ?_
          refine kw_iadd X dX7_passes_47 ?_
          obtain ⟨a278, hx, hF⟩ := ob1_ex hF
          obtain ⟨hin, hx⟩ := aget_ex hx
          refine kw_iald X 1 0 rfl rfl hin hx dX7_passes_48 ?_
          refine kw_istore (lo' := [(0, .ref h0), (1, .int p1), (2, .int p2), (3, .int v3_243), (4, .int v4_244), (5, .int a278)]) X dX7_passes_49 (by decide) [1, 2, 3, 4, 5, 0] rfl ?_
          refine kw_aload_n X dX7_passes_51 rfl 0 rfl ?_
          refine kw_iload X dX7_passes_52 5 rfl ?_
          obtain ⟨b279, hx279, hF⟩ := ob1_ex hF
          refine kw_ap X (r := .int b279) (As := [.int a278]) (st := []) (c_X7_isBroken l D cI cC cR h0 h1 h2 h3 h4 w245 sv asd tx states len at_ letter one two number a278 b279 hx279) vl_X7_33 yv_X7_isBroken ⟨Nat.le_of_ble_eq_true rfl, Nat.le_of_ble_eq_true rfl⟩ ⟨rfl, rfl⟩ ⟨Nat.zero_le _, Nat.zero_le _⟩ 0 rfl rfl rfl rfl (Nat.le_of_ble_eq_true rfl) dX7_passes_54 ?_
          refine kw_istore (lo' := [(0, .ref h0), (1, .int p1), (2, .int p2), (3, .int v3_243), (4, .int v4_244), (5, .int a278), (6, .int b279)]) X dX7_passes_57 (by decide) [1, 2, 3, 4, 5, 6, 0] rfl ?_
          refine kw_aload_n X dX7_passes_59 rfl 0 rfl ?_
          refine kw_get X inX7 0 rfl rfl 0 (by decide) rfl gw_698 rfl dX7_passes_60 ?_
          refine kw_bipush X dX7_passes_63 cb_121 ?_
          refine kw_iload X dX7_passes_65 5 rfl ?_
          refine kw_iadd X dX7_passes_67 ?_
          refine kw_aload_n X dX7_passes_68 rfl 0 rfl ?_
          refine kw_get X inX7 0 rfl rfl 0 (by decide) rfl gw_698 rfl dX7_passes_69 ?_
          refine kw_bipush X dX7_passes_72 cb_121 ?_
          refine kw_iload X dX7_passes_74 5 rfl ?_
          refine kw_iadd X dX7_passes_76 ?_
          obtain ⟨a280, hx, hF⟩ := ob1_ex hF
          obtain ⟨hin, hx⟩ := aget_ex hx
          refine kw_iald X 1 0 rfl rfl hin hx dX7_passes_77 ?_
          refine kw_iload_n X dX7_passes_78 rfl 1 rfl ?_
          refine kw_iload_n X dX7_passes_79 rfl 2 rfl ?_
          refine kw_sp X (r := .int (f_X7_worn a280 p1 p2)) (As := [.int a280, .int p1, .int p2]) (st := [.int (121 + a278), .ref h1]) (c_X7_worn l D cI cC cR  a280 p1 p2 (f_X7_worn a280 p1 p2) rfl) vl_X7_90 yv_X7_worn ⟨Nat.le_of_ble_eq_true rfl, Nat.le_of_ble_eq_true rfl⟩ ⟨rfl, rfl⟩ ⟨Nat.zero_le _, Nat.zero_le _⟩ [] rfl rfl rfl rfl (Nat.le_of_ble_eq_true rfl) dX7_passes_80 ?_
          obtain ⟨m281, hx, hF⟩ := ob1_ex hF
          obtain ⟨hin, hx⟩ := aset_ex hx
          refine kw_iast X E 1 0 rfl rfl hin (ws' := wX7 cI h0 h1 h2 h3 h4 m281 sv asd tx states len at_ letter one two number) (by rw [hx]; rfl) dX7_passes_83 ?_
          refine kw_aload_n X dX7_passes_84 rfl 0 rfl ?_
          refine kw_get X inX7 0 rfl rfl 0 (by decide) rfl gw_698 rfl dX7_passes_85 ?_
          refine kw_sipush X dX7_passes_88 cs_273 ?_
          refine kw_iload X dX7_passes_91 4 rfl ?_
          refine kw_iadd X dX7_passes_93 ?_
          refine kw_dup2 X dX7_passes_94 rfl rfl ?_
          obtain ⟨a282, hx, hF⟩ := ob1_ex hF
          obtain ⟨hin, hx⟩ := aget_ex hx
          refine kw_iald X 1 0 rfl rfl hin hx dX7_passes_95 ?_
          refine kw_iload_n X dX7_passes_96 rfl 1 rfl ?_
          refine kw_iconst X dX7_passes_97 ci_2 ?_
          obtain ⟨x284, hx285, hF⟩ := pl1_ex hF
          have J : KW Γ 0 0 (wX7 cI h0 h1 h2 h3 h4 m281 sv asd tx states len at_ letter one two number) [(0, .ref h0), (1, .int p1), (2, .int p2), (3, .int v3_243), (4, .int v4_244), (5, .int a278), (6, .int b279)] 106 [.int x284, .int a282, .int (273 + v4_244), .ref h1] := by
            refine kw_iadd X dX7_passes_106 ?_
            obtain ⟨m286, hx, hF⟩ := ob1_ex hF
            obtain ⟨hin, hx⟩ := aset_ex hx
            refine kw_iast X E 1 0 rfl rfl hin (ws' := wX7 cI h0 h1 h2 h3 h4 m286 sv asd tx states len at_ letter one two number) (by rw [hx]; rfl) dX7_passes_107 ?_
            refine kw_iload X dX7_passes_108 6 rfl ?_
            obtain ⟨x291, hx292, hF⟩ := ob1_ex hF
            have J : KW Γ 0 0 (wX7 cI h0 h1 h2 h3 h4 m286 sv asd tx states len at_ letter one two number) [(0, .ref h0), (1, .int p1), (2, .int p2), (3, .int v3_243), (4, .int v4_244)] 127 [.int x291] := by
              refine kw_istore (lo' := [(0, .ref h0), (1, .int p1), (2, .int p2), (3, .int v3_243), (4, .int v4_244), (7, .int x291)]) X dX7_passes_127 (by decide) [1, 2, 3, 4, 5, 0] rfl ?_
              refine kw_aload_n X dX7_passes_129 rfl 0 rfl ?_
              refine kw_get X inX7 0 rfl rfl 0 (by decide) rfl gw_698 rfl dX7_passes_130 ?_
              refine kw_sipush X dX7_passes_133 cs_285 ?_
              refine kw_iload X dX7_passes_136 4 rfl ?_
              refine kw_iadd X dX7_passes_138 ?_
              refine kw_iload X dX7_passes_139 5 rfl ?_
              obtain ⟨x295, hx296, hF⟩ := ob1_ex hF
              have J : KW Γ 0 0 (wX7 cI h0 h1 h2 h3 h4 m286 sv asd tx states len at_ letter one two number) [(0, .ref h0), (1, .int p1), (2, .int p2), (3, .int v3_243), (4, .int v4_244), (7, .int x291)] 159 [.int x295, .int (285 + v4_244), .ref h1] := by
                obtain ⟨m297, hx, hF⟩ := ob1_ex hF
                obtain ⟨hin, hx⟩ := aset_ex hx
                refine kw_iast X E 1 0 rfl rfl hin (ws' := wX7 cI h0 h1 h2 h3 h4 m297 sv asd tx states len at_ letter one two number) (by rw [hx]; rfl) dX7_passes_159 ?_
                refine kw_iload_n X dX7_passes_160 rfl 3 rfl ?_
                refine kw_iload X dX7_passes_161 5 rfl ?_
                obtain ⟨x299, hx300, hF⟩ := pl1_ex hF
                have J : KW Γ 0 0 (wX7 cI h0 h1 h2 h3 h4 m297 sv asd tx states len at_ letter one two number) [(0, .ref h0), (1, .int p1), (2, .int p2), (4, .int v4_244)] 171 [.int x299, .int v3_243] := by
                  refine kw_iadd X dX7_passes_171 ?_
                  refine kw_istore_n (lo' := [(0, .ref h0), (1, .int p1), (2, .int p2), (3, .int (v3_243 + x299)), (4, .int v4_244)]) X dX7_passes_172 rfl (by decide) [1, 2, 3, 0, 4] rfl ?_
                  obtain ⟨rfl, rfl⟩ := si2 hF
                  exact J
                replace hF := hx300
                refine kw_if_eq X 170 dX7_passes_163 (by decide) (fun q298 => ?_) (fun q298 => ?_)
                · replace hF := (if_pos q298).symm.trans hF
                  refine kw_iconst X dX7_passes_170 ci_0 ?_
                  refine kw_loc (lo' := [(0, .ref h0), (1, .int p1), (2, .int p2), (4, .int v4_244)]) [0, 1, 2, 4] rfl ?_
                  obtain rfl := ti1 hF
                  exact J
                · replace hF := (if_neg q298).symm.trans hF
                  refine kw_iconst X dX7_passes_166 ci_1 ?_
                  refine kw_goto X 171 dX7_passes_167 (by decide) ?_
                  refine kw_loc (lo' := [(0, .ref h0), (1, .int p1), (2, .int p2), (4, .int v4_244)]) [0, 1, 2, 4] rfl ?_
                  obtain rfl := ti1 hF
                  exact J
              replace hF := hx296
              refine kw_if_eq X 148 dX7_passes_141 (by decide) (fun q293 => ?_) (fun q293 => ?_)
              · replace hF := (if_pos q293).symm.trans hF
                refine kw_aload_n X dX7_passes_148 rfl 0 rfl ?_
                refine kw_get X inX7 0 rfl rfl 0 (by decide) rfl gw_698 rfl dX7_passes_149 ?_
                refine kw_sipush X dX7_passes_152 cs_285 ?_
                refine kw_iload X dX7_passes_155 4 rfl ?_
                refine kw_iadd X dX7_passes_157 ?_
                obtain ⟨a301, hx, hF⟩ := ob1_ex hF
                obtain ⟨hin, hx⟩ := aget_ex hx
                refine kw_iald X 1 0 rfl rfl hin hx dX7_passes_158 ?_
                obtain rfl := si1 hF
                exact J
              · replace hF := (if_neg q293).symm.trans hF
                refine kw_iconst X dX7_passes_144 ci_1 ?_
                refine kw_goto X 159 dX7_passes_145 (by decide) ?_
                obtain rfl := si1 hF
                exact J
            replace hF := hx292
            refine kw_if_ne X 126 dX7_passes_110 (by decide) (fun q287 => ?_) (fun q287 => ?_)
            · replace hF := (if_neg q287).symm.trans hF
              refine kw_iconst X dX7_passes_126 ci_0 ?_
              refine kw_loc (lo' := [(0, .ref h0), (1, .int p1), (2, .int p2), (3, .int v3_243), (4, .int v4_244)]) [0, 1, 2, 3, 4] rfl ?_
              obtain rfl := si1 hF
              exact J
            · replace hF := (if_pos q287).symm.trans hF
              refine kw_aload_n X dX7_passes_113 rfl 0 rfl ?_
              refine kw_iload X dX7_passes_114 5 rfl ?_
              obtain ⟨b302, hx302, hF⟩ := ob1_ex hF
              refine kw_ap X (r := .int b302) (As := [.int a278]) (st := []) (c_X7_isBroken l D cI cC cR h0 h1 h2 h3 h4 m286 sv asd tx states len at_ letter one two number a278 b302 hx302) vl_X7_33 yv_X7_isBroken ⟨Nat.le_of_ble_eq_true rfl, Nat.le_of_ble_eq_true rfl⟩ ⟨rfl, rfl⟩ ⟨Nat.zero_le _, Nat.zero_le _⟩ 0 rfl rfl rfl rfl (Nat.le_of_ble_eq_true rfl) dX7_passes_116 ?_
              refine kw_if_eq X 126 dX7_passes_119 (by decide) (fun q303 => ?_) (fun q303 => ?_)
              · replace hF := (if_pos q303).symm.trans hF
                refine kw_iconst X dX7_passes_126 ci_0 ?_
                refine kw_loc (lo' := [(0, .ref h0), (1, .int p1), (2, .int p2), (3, .int v3_243), (4, .int v4_244)]) [0, 1, 2, 3, 4] rfl ?_
                obtain rfl := si1 hF
                exact J
              · replace hF := (if_neg q303).symm.trans hF
                refine kw_iconst X dX7_passes_122 ci_1 ?_
                refine kw_goto X 127 dX7_passes_123 (by decide) ?_
                refine kw_loc (lo' := [(0, .ref h0), (1, .int p1), (2, .int p2), (3, .int v3_243), (4, .int v4_244)]) [0, 1, 2, 3, 4] rfl ?_
                obtain rfl := si1 hF
                exact J
          replace hF := hx285
          refine kw_icmp_lt X 105 dX7_passes_98 (by decide) (fun q283 => ?_) (fun q283 => ?_)
          · replace hF := (if_pos q283).symm.trans hF
            refine kw_iconst X dX7_passes_105 ci_0 ?_
            obtain rfl := ti1 hF
            exact J
          · replace hF := (if_neg q283).symm.trans hF
            refine kw_iconst X dX7_passes_101 ci_1 ?_
            refine kw_goto X 106 dX7_passes_102 (by decide) ?_
            obtain rfl := ti1 hF
            exact J
  exact hL17 Z _ _ _ hx
-- X7_whyHour
def f_X7_whyHour (p : Nat → Int32) (p1 : Int32) (p2 : Int32) : Option (Int32) :=
  (if (f_X7_in p1 0 9) = 0 then (some (-1)) else (if (f_X7_in p2 0 3) = 0 then (some (-1)) else ob1 (aget 986 p 322) (fun a3 => (if a3 = 500 then (some (-3)) else (some 0)))))
abbrev rm_X7_whyHour : Room := { frames := 1, cells := 0, slots := 0, locals := 22 }
set_option maxHeartbeats 4000000 in
set_option maxRecDepth 100000 in
theorem c_X7_whyHour (l : Launch) (D : va_G) (cI cC cR : ClassId) (h0 h1 h2 h3 h4 : Nat) (p : Nat → Int32) (sv : Nat → Int32) (asd : Nat → Int32) (tx : Nat → Int32) (states : Int32) (len : Int32) (at_ : Int32) (letter : Int32) (one : Int32) (two : Int32) (number : Int32) (p1 : Int32) (p2 : Int32) (r : Int32) (hF : f_X7_whyHour p p1 p2 = some r) : MPi l yX7_whyHour cX7_whyHour 3 (some .int) rm_X7_whyHour D (TY cI cC cR) [.ref h0, .int p1, .int p2] (wX7 cI h0 h1 h2 h3 h4 p sv asd tx states len at_ letter one two number) (.int r) := by
  refine me_p pn_X7 (Nat.le_of_ble_eq_true rfl) rfl (fun Γ X hret => ?_)
  unfold f_X7_whyHour at hF
  refine kw_iload_n X dX7_whyHour_0 rfl 1 rfl ?_
  refine kw_iconst X dX7_whyHour_1 ci_0 ?_
  refine kw_bipush X dX7_whyHour_2 cb_9 ?_
  refine kw_sp X (r := .int (f_X7_in p1 0 9)) (As := [.int p1, .int 0, .int 9]) (st := []) (c_X7_in l D cI cC cR  p1 0 9 (f_X7_in p1 0 9) rfl) vl_X7_22 yv_X7_in ⟨Nat.le_of_ble_eq_true rfl, Nat.le_of_ble_eq_true rfl⟩ ⟨rfl, rfl⟩ ⟨Nat.zero_le _, Nat.zero_le _⟩ [] rfl rfl rfl rfl (Nat.le_of_ble_eq_true rfl) dX7_whyHour_4 ?_
  refine kw_if_eq X 19 dX7_whyHour_7 (by decide) (fun q1 => ?_) (fun q1 => ?_)
  · replace hF := (if_pos q1).symm.trans hF
    refine kw_iconst X dX7_whyHour_19 ci_m1 ?_
    refine kw_goto X 43 dX7_whyHour_20 (by decide) ?_
    obtain rfl := si1 hF
    exact hret _ _ _ (vp_nar_int _) dX7_whyHour_43
  · replace hF := (if_neg q1).symm.trans hF
    refine kw_iload_n X dX7_whyHour_10 rfl 2 rfl ?_
    refine kw_iconst X dX7_whyHour_11 ci_0 ?_
    refine kw_iconst X dX7_whyHour_12 ci_3 ?_
    refine kw_sp X (r := .int (f_X7_in p2 0 3)) (As := [.int p2, .int 0, .int 3]) (st := []) (c_X7_in l D cI cC cR  p2 0 3 (f_X7_in p2 0 3) rfl) vl_X7_22 yv_X7_in ⟨Nat.le_of_ble_eq_true rfl, Nat.le_of_ble_eq_true rfl⟩ ⟨rfl, rfl⟩ ⟨Nat.zero_le _, Nat.zero_le _⟩ [] rfl rfl rfl rfl (Nat.le_of_ble_eq_true rfl) dX7_whyHour_13 ?_
    refine kw_if_ne X 23 dX7_whyHour_16 (by decide) (fun q2 => ?_) (fun q2 => ?_)
    · replace hF := (if_neg q2).symm.trans hF
      refine kw_aload_n X dX7_whyHour_23 rfl 0 rfl ?_
      refine kw_get X inX7 0 rfl rfl 0 (by decide) rfl gw_698 rfl dX7_whyHour_24 ?_
      refine kw_sipush X dX7_whyHour_27 cs_322 ?_
      obtain ⟨a3, hx, hF⟩ := ob1_ex hF
      obtain ⟨hin, hx⟩ := aget_ex hx
      refine kw_iald X 1 0 rfl rfl hin hx dX7_whyHour_30 ?_
      refine kw_sipush X dX7_whyHour_31 cs_500 ?_
      refine kw_icmp_ne X 42 dX7_whyHour_34 (by decide) (fun q4 => ?_) (fun q4 => ?_)
      · replace hF := (if_neg q4).symm.trans hF
        refine kw_iconst X dX7_whyHour_42 ci_0 ?_
        obtain rfl := si1 hF
        exact hret _ _ _ (vp_nar_int _) dX7_whyHour_43
      · replace hF := (if_pos q4).symm.trans hF
        refine kw_bipush X dX7_whyHour_37 cb_m3 ?_
        refine kw_goto X 43 dX7_whyHour_39 (by decide) ?_
        obtain rfl := si1 hF
        exact hret _ _ _ (vp_nar_int _) dX7_whyHour_43
    · replace hF := (if_pos q2).symm.trans hF
      refine kw_iconst X dX7_whyHour_19 ci_m1 ?_
      refine kw_goto X 43 dX7_whyHour_20 (by decide) ?_
      obtain rfl := si1 hF
      exact hret _ _ _ (vp_nar_int _) dX7_whyHour_43
-- X7_hour
def f_X7_hour (Z : Nat) (p : Nat → Int32) (sv : Nat → Int32) (states : Int32) (p1 : Int32) (p2 : Int32) : Option (Int32 × (Nat → Int32) × (Nat → Int32) × Int32) :=
  (ob1 (f_X7_whyHour p p1 p2) (fun (b1 : Int32) => (if b1 < 0 then (some (b1, p, sv, states)) else (ob2 (f_X7_save Z p sv states) (fun (m3 : Nat → Int32) (b4 : Int32) => (ob2 (f_X7_passes Z p p1 p2) (fun (b5 : Int32) (m6 : Nat → Int32) => (some (b5, m6, m3, b4)))))))))
abbrev rm_X7_hour : Room := { frames := 4, cells := 0, slots := 0, locals := 97 }
set_option maxHeartbeats 4000000 in
set_option maxRecDepth 100000 in
theorem c_X7_hour (l : Launch) (D : va_G) (cI cC cR : ClassId) (h0 h1 h2 h3 h4 : Nat) (p : Nat → Int32) (sv : Nat → Int32) (asd : Nat → Int32) (tx : Nat → Int32) (states : Int32) (len : Int32) (at_ : Int32) (letter : Int32) (one : Int32) (two : Int32) (number : Int32) (p1 : Int32) (p2 : Int32) (Z : Nat) (r : Int32) (p' : Nat → Int32) (sv' : Nat → Int32) (states' : Int32) (hF : f_X7_hour Z p sv states p1 p2 = some (r, p', sv', states')) : MEq l yX7_hour cX7_hour 4 (some .int) rm_X7_hour D (TY cI cC cR) [.ref h0, .int p1, .int p2] (wX7 cI h0 h1 h2 h3 h4 p sv asd tx states len at_ letter one two number) (wX7 cI h0 h1 h2 h3 h4 p' sv' asd tx states' len at_ letter one two number) (some (.int r)) := by
  refine me_e pn_X7 (Nat.le_of_ble_eq_true rfl) rfl (fun Γ X E hret => ?_)
  unfold f_X7_hour at hF
  refine kw_aload_n X dX7_hour_0 rfl 0 rfl ?_
  refine kw_iload_n X dX7_hour_1 rfl 1 rfl ?_
  refine kw_iload_n X dX7_hour_2 rfl 2 rfl ?_
  obtain ⟨b1, hx1, hF⟩ := ob1_ex hF
  refine kw_ap X (r := .int b1) (As := [.int p1, .int p2]) (st := []) (c_X7_whyHour l D cI cC cR h0 h1 h2 h3 h4 p sv asd tx states len at_ letter one two number p1 p2 b1 hx1) vl_X7_94 yv_X7_whyHour ⟨Nat.le_of_ble_eq_true rfl, Nat.le_of_ble_eq_true rfl⟩ ⟨rfl, rfl⟩ ⟨Nat.zero_le _, Nat.zero_le _⟩ 0 rfl rfl rfl rfl (Nat.le_of_ble_eq_true rfl) dX7_hour_3 ?_
  refine kw_istore_n (lo' := [(0, .ref h0), (1, .int p1), (2, .int p2), (3, .int b1)]) X dX7_hour_6 rfl (by decide) [1, 2, 3, 0] rfl ?_
  refine kw_iload_n X dX7_hour_7 rfl 3 rfl ?_
  refine kw_if_ge X 13 dX7_hour_8 (by decide) (fun q2 => ?_) (fun q2 => ?_)
  · replace hF := (if_neg q2).symm.trans hF
    refine kw_aload_n X dX7_hour_13 rfl 0 rfl ?_
    obtain ⟨m3, b4, hx4, hF⟩ := ob2_ex hF
    refine kw_aev X (As := []) (st := []) E (c_X7_save l D cI cC cR h0 h1 h2 h3 h4 p sv asd tx states len at_ letter one two number Z m3 b4 hx4) vl_X7_54 yv_X7_save ⟨Nat.le_of_ble_eq_true rfl, Nat.le_of_ble_eq_true rfl⟩ ⟨rfl, rfl⟩ ⟨Nat.zero_le _, Nat.zero_le _⟩ 0 rfl rfl rfl rfl (Nat.le_of_ble_eq_true rfl) dX7_hour_14 ?_
    refine kw_aload_n X dX7_hour_17 rfl 0 rfl ?_
    refine kw_iload_n X dX7_hour_18 rfl 1 rfl ?_
    refine kw_iload_n X dX7_hour_19 rfl 2 rfl ?_
    obtain ⟨b5, m6, hx6, hF⟩ := ob2_ex hF
    refine kw_aei X (r := .int b5) (As := [.int p1, .int p2]) (st := []) E (c_X7_passes l D cI cC cR h0 h1 h2 h3 h4 p m3 asd tx b4 len at_ letter one two number p1 p2 Z b5 m6 hx6) vl_X7_97 yv_X7_passes ⟨Nat.le_of_ble_eq_true rfl, Nat.le_of_ble_eq_true rfl⟩ ⟨rfl, rfl⟩ ⟨Nat.zero_le _, Nat.zero_le _⟩ 0 rfl rfl rfl rfl (Nat.le_of_ble_eq_true rfl) dX7_hour_20 ?_
    obtain ⟨rfl, rfl, rfl, rfl⟩ := si4 hF
    exact hret _ _ (vp_nar_int _) dX7_hour_23
  · replace hF := (if_pos q2).symm.trans hF
    refine kw_iload_n X dX7_hour_11 rfl 3 rfl ?_
    obtain ⟨rfl, rfl, rfl, rfl⟩ := si4 hF
    exact hret _ _ (vp_nar_int _) dX7_hour_12
