-- X7_isLoad
def f_X7_isLoad (p1 : Int32) (p2 : Int32) (p3 : Int32) : Int32 :=
  (if (f_X7_in p1 0 1) = 0 then 0 else (if (f_X7_isStand p2) = 0 then 0 else (if (f_X7_in p3 1 10) = 0 then 0 else 1)))
abbrev rm_X7_isLoad : Room := { frames := 2, cells := 0, slots := 0, locals := 42 }
set_option maxHeartbeats 4000000 in
set_option maxRecDepth 100000 in
theorem c_X7_isLoad (l : Launch) (D : va_G) (cI cC cR : ClassId) (p1 : Int32) (p2 : Int32) (p3 : Int32) (r : Int32) (hF : f_X7_isLoad p1 p2 p3 = r) : MPi l yX7_isLoad cX7_isLoad 3 (some .boolean) rm_X7_isLoad D (TY cI cC cR) [.int p1, .int p2, .int p3] ([]) (.int r) := by
  refine me_p pn_X7 (Nat.le_of_ble_eq_true rfl) rfl (fun Γ X hret => ?_)
  unfold f_X7_isLoad at hF
  refine kw_iload_n X dX7_isLoad_0 rfl 0 rfl ?_
  refine kw_iconst X dX7_isLoad_1 ci_0 ?_
  refine kw_iconst X dX7_isLoad_2 ci_1 ?_
  refine kw_sp X (r := .int (f_X7_in p1 0 1)) (As := [.int p1, .int 0, .int 1]) (st := []) (c_X7_in l D cI cC cR  p1 0 1 (f_X7_in p1 0 1) rfl) vl_X7_22 yv_X7_in ⟨Nat.le_of_ble_eq_true rfl, Nat.le_of_ble_eq_true rfl⟩ ⟨rfl, rfl⟩ ⟨Nat.zero_le _, Nat.zero_le _⟩ [] rfl rfl rfl rfl (Nat.le_of_ble_eq_true rfl) dX7_isLoad_3 ?_
  refine kw_if_eq X 30 dX7_isLoad_6 (by decide) (fun q1 => ?_) (fun q1 => ?_)
  · replace hF := (if_pos q1).symm.trans hF
    refine kw_iconst X dX7_isLoad_30 ci_0 ?_
    obtain rfl := ti1 hF
    exact hret _ _ _ rfl dX7_isLoad_31
  · replace hF := (if_neg q1).symm.trans hF
    refine kw_iload_n X dX7_isLoad_9 rfl 1 rfl ?_
    refine kw_sp X (r := .int (f_X7_isStand p2)) (As := [.int p2]) (st := []) (c_X7_isStand l D cI cC cR  p2 (f_X7_isStand p2) rfl) vl_X7_45 yv_X7_isStand ⟨Nat.le_of_ble_eq_true rfl, Nat.le_of_ble_eq_true rfl⟩ ⟨rfl, rfl⟩ ⟨Nat.zero_le _, Nat.zero_le _⟩ [] rfl rfl rfl rfl (Nat.le_of_ble_eq_true rfl) dX7_isLoad_10 ?_
    refine kw_if_eq X 30 dX7_isLoad_13 (by decide) (fun q2 => ?_) (fun q2 => ?_)
    · replace hF := (if_pos q2).symm.trans hF
      refine kw_iconst X dX7_isLoad_30 ci_0 ?_
      obtain rfl := ti1 hF
      exact hret _ _ _ rfl dX7_isLoad_31
    · replace hF := (if_neg q2).symm.trans hF
      refine kw_iload_n X dX7_isLoad_16 rfl 2 rfl ?_
      refine kw_iconst X dX7_isLoad_17 ci_1 ?_
      refine kw_bipush X dX7_isLoad_18 cb_10 ?_
      refine kw_sp X (r := .int (f_X7_in p3 1 10)) (As := [.int p3, .int 1, .int 10]) (st := []) (c_X7_in l D cI cC cR  p3 1 10 (f_X7_in p3 1 10) rfl) vl_X7_22 yv_X7_in ⟨Nat.le_of_ble_eq_true rfl, Nat.le_of_ble_eq_true rfl⟩ ⟨rfl, rfl⟩ ⟨Nat.zero_le _, Nat.zero_le _⟩ [] rfl rfl rfl rfl (Nat.le_of_ble_eq_true rfl) dX7_isLoad_20 ?_
      refine kw_if_eq X 30 dX7_isLoad_23 (by decide) (fun q3 => ?_) (fun q3 => ?_)
      · replace hF := (if_pos q3).symm.trans hF
        refine kw_iconst X dX7_isLoad_30 ci_0 ?_
        obtain rfl := ti1 hF
        exact hret _ _ _ rfl dX7_isLoad_31
      · replace hF := (if_neg q3).symm.trans hF
        refine kw_iconst X dX7_isLoad_26 ci_1 ?_
        refine kw_goto X 31 dX7_isLoad_27 (by decide) ?_
        obtain rfl := ti1 hF
        exact hret _ _ _ rfl dX7_isLoad_31
-- X7_load
def f_X7_load_L50 (Z : Nat) (p1 : Int32) (p2 : Int32) (p3 : Int32) : Nat → Int32 → Int32 → (Nat → Int32) → Option (Int32 × (Nat → Int32))
  | 0, _, _, _ => none
  | F + 1, v4_27, v5_28, w29 => (if v5_28 < p3 then (ob1 (f_X7_worstOf Z w29 p2) (fun (b31 : Int32) => (ob1 (f_X7_goes w29 b31 2 p1) (fun (m32 : Nat → Int32) => (ob1 (f_X7_isBroken m32 b31) (fun (b33 : Int32) => (pl1 (if b33 = 0 then 0 else 1) (fun (x35 : Int32) => (f_X7_load_L50 Z p1 p2 p3 F (v4_27 + x35) (v5_28 + 1) m32))))))))) else (some (v4_27, w29)))
def f_X7_load (Z : Nat) (p : Nat → Int32) (sv : Nat → Int32) (states : Int32) (p1 : Int32) (p2 : Int32) (p3 : Int32) : Option (Int32 × (Nat → Int32) × (Nat → Int32) × Int32) :=
  (if (f_X7_isLoad p1 p2 p3) = 0 then (some ((-1), p, sv, states)) else (ob1 (f_X7_manyAt Z p 0 p2) (fun (b2 : Int32) => (if b2 < p3 then (some ((-2), p, sv, states)) else (ob1 (f_X7_manyAt Z p 2 p1) (fun (b4 : Int32) => (if 10 < (b4 + p3) then (some ((-3), p, sv, states)) else (ob2 (f_X7_save Z p sv states) (fun (m6 : Nat → Int32) (b7 : Int32) => (ob2 (f_X7_load_L50 Z p1 p2 p3 Z 0 0 p) (fun (e25 : Int32) (w26 : Nat → Int32) => (some (e25, w26, m6, b7)))))))))))))
abbrev rm_X7_load : Room := { frames := 3, cells := 0, slots := 0, locals := 64 }
set_option maxHeartbeats 4000000 in
set_option maxRecDepth 100000 in
theorem c_X7_load (l : Launch) (D : va_G) (cI cC cR : ClassId) (h0 h1 h2 h3 h4 : Nat) (p : Nat → Int32) (sv : Nat → Int32) (asd : Nat → Int32) (tx : Nat → Int32) (states : Int32) (len : Int32) (at_ : Int32) (letter : Int32) (one : Int32) (two : Int32) (number : Int32) (p1 : Int32) (p2 : Int32) (p3 : Int32) (Z : Nat) (r : Int32) (p' : Nat → Int32) (sv' : Nat → Int32) (states' : Int32) (hF : f_X7_load Z p sv states p1 p2 p3 = some (r, p', sv', states')) : MEq l yX7_load cX7_load 7 (some .int) rm_X7_load D (TY cI cC cR) [.ref h0, .int p1, .int p2, .int p3] (wX7 cI h0 h1 h2 h3 h4 p sv asd tx states len at_ letter one two number) (wX7 cI h0 h1 h2 h3 h4 p' sv' asd tx states' len at_ letter one two number) (some (.int r)) := by
  refine me_e pn_X7 (Nat.le_of_ble_eq_true rfl) rfl (fun Γ X E hret => ?_)
  unfold f_X7_load at hF
  refine kw_iload_n X dX7_load_0 rfl 1 rfl ?_
  refine kw_iload_n X dX7_load_1 rfl 2 rfl ?_
  refine kw_iload_n X dX7_load_2 rfl 3 rfl ?_
  refine kw_sp X (r := .int (f_X7_isLoad p1 p2 p3)) (As := [.int p1, .int p2, .int p3]) (st := []) (c_X7_isLoad l D cI cC cR  p1 p2 p3 (f_X7_isLoad p1 p2 p3) rfl) vl_X7_100 yv_X7_isLoad ⟨Nat.le_of_ble_eq_true rfl, Nat.le_of_ble_eq_true rfl⟩ ⟨rfl, rfl⟩ ⟨Nat.zero_le _, Nat.zero_le _⟩ [] rfl rfl rfl rfl (Nat.le_of_ble_eq_true rfl) dX7_load_3 ?_
  refine kw_if_ne X 11 dX7_load_6 (by decide) (fun q1 => ?_) (fun q1 => ?_)
  · replace hF := (if_neg q1).symm.trans hF
    refine kw_aload_n X dX7_load_11 rfl 0 rfl ?_
    refine kw_iconst X dX7_load_12 ci_0 ?_
    refine kw_iload_n X dX7_load_13 rfl 2 rfl ?_
    obtain ⟨b2, hx2, hF⟩ := ob1_ex hF
    refine kw_ap X (r := .int b2) (As := [.int 0, .int p2]) (st := []) (c_X7_manyAt l D cI cC cR h0 h1 h2 h3 h4 p sv asd tx states len at_ letter one two number 0 p2 Z b2 hx2) vl_X7_37 yv_X7_manyAt ⟨Nat.le_of_ble_eq_true rfl, Nat.le_of_ble_eq_true rfl⟩ ⟨rfl, rfl⟩ ⟨Nat.zero_le _, Nat.zero_le _⟩ 0 rfl rfl rfl rfl (Nat.le_of_ble_eq_true rfl) dX7_load_14 ?_
    refine kw_iload_n X dX7_load_17 rfl 3 rfl ?_
    refine kw_icmp_ge X 24 dX7_load_18 (by decide) (fun q3 => ?_) (fun q3 => ?_)
    · replace hF := (if_neg q3).symm.trans hF
      refine kw_aload_n X dX7_load_24 rfl 0 rfl ?_
      refine kw_iconst X dX7_load_25 ci_2 ?_
      refine kw_iload_n X dX7_load_26 rfl 1 rfl ?_
      obtain ⟨b4, hx4, hF⟩ := ob1_ex hF
      refine kw_ap X (r := .int b4) (As := [.int 2, .int p1]) (st := []) (c_X7_manyAt l D cI cC cR h0 h1 h2 h3 h4 p sv asd tx states len at_ letter one two number 2 p1 Z b4 hx4) vl_X7_37 yv_X7_manyAt ⟨Nat.le_of_ble_eq_true rfl, Nat.le_of_ble_eq_true rfl⟩ ⟨rfl, rfl⟩ ⟨Nat.zero_le _, Nat.zero_le _⟩ 0 rfl rfl rfl rfl (Nat.le_of_ble_eq_true rfl) dX7_load_27 ?_
      refine kw_iload_n X dX7_load_30 rfl 3 rfl ?_
      refine kw_iadd X dX7_load_31 ?_
      refine kw_bipush X dX7_load_32 cb_10 ?_
      refine kw_icmp_le X 40 dX7_load_34 (by decide) (fun q5 => ?_) (fun q5 => ?_)
      · replace hF := (if_neg q5).symm.trans hF
        refine kw_aload_n X dX7_load_40 rfl 0 rfl ?_
        obtain ⟨m6, b7, hx7, hF⟩ := ob2_ex hF
        refine kw_aev X (As := []) (st := []) E (c_X7_save l D cI cC cR h0 h1 h2 h3 h4 p sv asd tx states len at_ letter one two number Z m6 b7 hx7) vl_X7_54 yv_X7_save ⟨Nat.le_of_ble_eq_true rfl, Nat.le_of_ble_eq_true rfl⟩ ⟨rfl, rfl⟩ ⟨Nat.zero_le _, Nat.zero_le _⟩ 0 rfl rfl rfl rfl (Nat.le_of_ble_eq_true rfl) dX7_load_41 ?_
        refine kw_iconst X dX7_load_44 ci_0 ?_
        refine kw_istore (lo' := [(0, .ref h0), (1, .int p1), (2, .int p2), (3, .int p3), (4, .int 0)]) X dX7_load_45 (by decide) [1, 2, 3, 4, 0] rfl ?_
        refine kw_iconst X dX7_load_47 ci_0 ?_
        refine kw_istore (lo' := [(0, .ref h0), (1, .int p1), (2, .int p2), (3, .int p3), (4, .int 0), (5, .int 0)]) X dX7_load_48 (by decide) [1, 2, 3, 4, 5, 0] rfl ?_
        obtain ⟨e25, w26, hx, hF⟩ := ob2_ex hF
        have J : KW Γ 0 0 (wX7 cI h0 h1 h2 h3 h4 w26 m6 asd tx b7 len at_ letter one two number) [(4, .int e25)] 96 [] := by
          refine kw_iload X dX7_load_96 0 rfl ?_
          obtain ⟨rfl, rfl, rfl, rfl⟩ := si4 hF
          exact hret _ _ (vp_nar_int _) dX7_load_98
        have hL50 : ∀ (F : Nat) (v4_27 : Int32) (v5_28 : Int32) (w29 : Nat → Int32), f_X7_load_L50 Z p1 p2 p3 F v4_27 v5_28 w29 = some (e25, w26) → KW Γ 0 0 (wX7 cI h0 h1 h2 h3 h4 w29 m6 asd tx b7 len at_ letter one two number) [(0, .ref h0), (1, .int p1), (2, .int p2), (3, .int p3), (4, .int v4_27), (5, .int v5_28)] 50 [] := by
          intro F
          induction F with
          | zero => intro v4_27 v5_28 w29 hF; exact none_some hF
          | succ F ih50 =>
            intro v4_27 v5_28 w29 hF
            rw [f_X7_load_L50] at hF
            refine kw_iload X dX7_load_50 5 rfl ?_
            refine kw_iload_n X dX7_load_52 rfl 3 rfl ?_
            refine kw_icmp_ge X 96 dX7_load_53 (by decide) (fun q30 => ?_) (fun q30 => ?_)
            · replace hF := (if_neg q30).symm.trans hF
              refine kw_loc (lo' := [(4, .int v4_27)]) [4] rfl ?_
              obtain ⟨rfl, rfl⟩ := si2 hF
              exact J
            · replace hF := (if_pos q30).symm.trans hF
              refine kw_aload_n X dX7_load_56 rfl 0 rfl ?_
              refine kw_iload_n X dX7_load_57 rfl 2 rfl ?_
              obtain ⟨b31, hx31, hF⟩ := ob1_ex hF
              refine kw_ap X (r := .int b31) (As := [.int p2]) (st := []) (c_X7_worstOf l D cI cC cR h0 h1 h2 h3 h4 w29 m6 asd tx b7 len at_ letter one two number p2 Z b31 hx31) vl_X7_103 yv_X7_worstOf ⟨Nat.le_of_ble_eq_true rfl, Nat.le_of_ble_eq_true rfl⟩ ⟨rfl, rfl⟩ ⟨Nat.zero_le _, Nat.zero_le _⟩ 0 rfl rfl rfl rfl (Nat.le_of_ble_eq_true rfl) dX7_load_58 ?_
              refine kw_istore (lo' := [(0, .ref h0), (1, .int p1), (2, .int p2), (3, .int p3), (4, .int v4_27), (5, .int v5_28), (6, .int b31)]) X dX7_load_61 (by decide) [1, 2, 3, 4, 5, 6, 0] rfl ?_
              refine kw_aload_n X dX7_load_63 rfl 0 rfl ?_
              refine kw_iload X dX7_load_64 6 rfl ?_
              refine kw_iconst X dX7_load_66 ci_2 ?_
              refine kw_iload_n X dX7_load_67 rfl 1 rfl ?_
              obtain ⟨m32, hx32, hF⟩ := ob1_ex hF
              refine kw_aev X (As := [.int b31, .int 2, .int p1]) (st := []) E (c_X7_goes l D cI cC cR h0 h1 h2 h3 h4 w29 m6 asd tx b7 len at_ letter one two number b31 2 p1 m32 hx32) vl_X7_57 yv_X7_goes ⟨Nat.le_of_ble_eq_true rfl, Nat.le_of_ble_eq_true rfl⟩ ⟨rfl, rfl⟩ ⟨Nat.zero_le _, Nat.zero_le _⟩ 0 rfl rfl rfl rfl (Nat.le_of_ble_eq_true rfl) dX7_load_68 ?_
              refine kw_iload X dX7_load_71 4 rfl ?_
              refine kw_aload_n X dX7_load_73 rfl 0 rfl ?_
              refine kw_iload X dX7_load_74 6 rfl ?_
              obtain ⟨b33, hx33, hF⟩ := ob1_ex hF
              refine kw_ap X (r := .int b33) (As := [.int b31]) (st := [.int v4_27]) (c_X7_isBroken l D cI cC cR h0 h1 h2 h3 h4 m32 m6 asd tx b7 len at_ letter one two number b31 b33 hx33) vl_X7_33 yv_X7_isBroken ⟨Nat.le_of_ble_eq_true rfl, Nat.le_of_ble_eq_true rfl⟩ ⟨rfl, rfl⟩ ⟨Nat.zero_le _, Nat.zero_le _⟩ 0 rfl rfl rfl rfl (Nat.le_of_ble_eq_true rfl) dX7_load_76 ?_
              obtain ⟨x35, hx36, hF⟩ := pl1_ex hF
              have J : KW Γ 0 0 (wX7 cI h0 h1 h2 h3 h4 m32 m6 asd tx b7 len at_ letter one two number) [(0, .ref h0), (1, .int p1), (2, .int p2), (3, .int p3), (5, .int v5_28)] 87 [.int x35, .int v4_27] := by
                refine kw_iadd X dX7_load_87 ?_
                refine kw_istore (lo' := [(0, .ref h0), (1, .int p1), (2, .int p2), (3, .int p3), (4, .int (v4_27 + x35)), (5, .int v5_28)]) X dX7_load_88 (by decide) [1, 2, 3, 4, 0, 5] rfl ?_
                refine kw_iinc (lo' := [(0, .ref h0), (1, .int p1), (2, .int p2), (3, .int p3), (4, .int (v4_27 + x35)), (5, .int (v5_28 + 1))]) X dX7_load_90 5 rfl (congrArg (fun w => v5_28 + w) ci_1) (by decide) [1, 2, 3, 4, 5, 0] rfl ?_
                refine kw_goto X 50 dX7_load_93 (by decide) ?_
                exact ih50 _ _ _ hF
              replace hF := hx36
              refine kw_if_eq X 86 dX7_load_79 (by decide) (fun q34 => ?_) (fun q34 => ?_)
              · replace hF := (if_pos q34).symm.trans hF
                refine kw_iconst X dX7_load_86 ci_0 ?_
                refine kw_loc (lo' := [(0, .ref h0), (1, .int p1), (2, .int p2), (3, .int p3), (5, .int v5_28)]) [0, 1, 2, 3, 5] rfl ?_
                obtain rfl := ti1 hF
                exact J
              · replace hF := (if_neg q34).symm.trans hF
                refine kw_iconst X dX7_load_82 ci_1 ?_
                refine kw_goto X 87 dX7_load_83 (by decide) ?_
                refine kw_loc (lo' := [(0, .ref h0), (1, .int p1), (2, .int p2), (3, .int p3), (5, .int v5_28)]) [0, 1, 2, 3, 5] rfl ?_
                obtain rfl := ti1 hF
                exact J
        exact hL50 Z _ _ _ hx
      · replace hF := (if_pos q5).symm.trans hF
        refine kw_bipush X dX7_load_37 cb_m3 ?_
        obtain ⟨rfl, rfl, rfl, rfl⟩ := si4 hF
        exact hret _ _ (vp_nar_int _) dX7_load_39
    · replace hF := (if_pos q3).symm.trans hF
      refine kw_bipush X dX7_load_21 cb_m2 ?_
      obtain ⟨rfl, rfl, rfl, rfl⟩ := si4 hF
      exact hret _ _ (vp_nar_int _) dX7_load_23
  · replace hF := (if_pos q1).symm.trans hF
    refine kw_iconst X dX7_load_9 ci_m1 ?_
    obtain ⟨rfl, rfl, rfl, rfl⟩ := si4 hF
    exact hret _ _ (vp_nar_int _) dX7_load_10
-- X7_unload
def f_X7_unload_L53 (p1 : Int32) (p2 : Int32) : Nat → Int32 → Int32 → (Nat → Int32) → Option ((Nat → Int32))
  | 0, _, _, _ => none
  | F + 1, v4_44, v5_45, w46 => ob1 (aget 986 w46 0) (fun a47 => (if v5_45 < a47 then (if 0 < v4_44 then (ob1 (f_X7_isAt w46 v5_45 2 p1) (fun (b50 : Int32) => (ob2 (if b50 = 0 then (some (v4_44, w46)) else (ob1 (f_X7_isBroken w46 v5_45) (fun (b59 : Int32) => (if b59 = 0 then (ob1 (f_X7_goes w46 v5_45 0 p2) (fun (m61 : Nat → Int32) => (some ((v4_44 + (-1)), m61)))) else (some (v4_44, w46)))))) (fun (v4_56 : Int32) (w57 : Nat → Int32) => (f_X7_unload_L53 p1 p2 F v4_56 (v5_45 + 1) w57))))) else (some (w46))) else (some (w46))))
def f_X7_unload (Z : Nat) (p : Nat → Int32) (sv : Nat → Int32) (states : Int32) (p1 : Int32) (p2 : Int32) (p3 : Int32) : Option (Int32 × (Nat → Int32) × (Nat → Int32) × Int32) :=
  (if (f_X7_isLoad p1 p2 p3) = 0 then (some ((-1), p, sv, states)) else (ob1 (f_X7_manyAt Z p 2 p1) (fun (b2 : Int32) => (ob1 (f_X7_brokenAt Z p 2 p1) (fun (b3 : Int32) => (if (b2 - b3) < p3 then (some ((-2), p, sv, states)) else (ob1 (f_X7_roomOf Z p p2) (fun (b5 : Int32) => (if b5 < p3 then (some ((-3), p, sv, states)) else (ob2 (f_X7_save Z p sv states) (fun (m7 : Nat → Int32) (b8 : Int32) => (ob1 (f_X7_unload_L53 p1 p2 Z p3 0 p) (fun (w42 : Nat → Int32) => (ob1 (f_X7_manyAt Z w42 2 p1) (fun (b43 : Int32) => (some (b43, w42, m7, b8)))))))))))))))))
abbrev rm_X7_unload : Room := { frames := 3, cells := 0, slots := 0, locals := 68 }
set_option maxHeartbeats 4000000 in
set_option maxRecDepth 100000 in
theorem c_X7_unload (l : Launch) (D : va_G) (cI cC cR : ClassId) (h0 h1 h2 h3 h4 : Nat) (p : Nat → Int32) (sv : Nat → Int32) (asd : Nat → Int32) (tx : Nat → Int32) (states : Int32) (len : Int32) (at_ : Int32) (letter : Int32) (one : Int32) (two : Int32) (number : Int32) (p1 : Int32) (p2 : Int32) (p3 : Int32) (Z : Nat) (r : Int32) (p' : Nat → Int32) (sv' : Nat → Int32) (states' : Int32) (hF : f_X7_unload Z p sv states p1 p2 p3 = some (r, p', sv', states')) : MEq l yX7_unload cX7_unload 6 (some .int) rm_X7_unload D (TY cI cC cR) [.ref h0, .int p1, .int p2, .int p3] (wX7 cI h0 h1 h2 h3 h4 p sv asd tx states len at_ letter one two number) (wX7 cI h0 h1 h2 h3 h4 p' sv' asd tx states' len at_ letter one two number) (some (.int r)) := by
  refine me_e pn_X7 (Nat.le_of_ble_eq_true rfl) rfl (fun Γ X E hret => ?_)
  unfold f_X7_unload at hF
  refine kw_iload_n X dX7_unload_0 rfl 1 rfl ?_
  refine kw_iload_n X dX7_unload_1 rfl 2 rfl ?_
  refine kw_iload_n X dX7_unload_2 rfl 3 rfl ?_
  refine kw_sp X (r := .int (f_X7_isLoad p1 p2 p3)) (As := [.int p1, .int p2, .int p3]) (st := []) (c_X7_isLoad l D cI cC cR  p1 p2 p3 (f_X7_isLoad p1 p2 p3) rfl) vl_X7_100 yv_X7_isLoad ⟨Nat.le_of_ble_eq_true rfl, Nat.le_of_ble_eq_true rfl⟩ ⟨rfl, rfl⟩ ⟨Nat.zero_le _, Nat.zero_le _⟩ [] rfl rfl rfl rfl (Nat.le_of_ble_eq_true rfl) dX7_unload_3 ?_
  refine kw_if_ne X 11 dX7_unload_6 (by decide) (fun q1 => ?_) (fun q1 => ?_)
  · replace hF := (if_neg q1).symm.trans hF
    refine kw_aload_n X dX7_unload_11 rfl 0 rfl ?_
    refine kw_iconst X dX7_unload_12 ci_2 ?_
    refine kw_iload_n X dX7_unload_13 rfl 1 rfl ?_
    obtain ⟨b2, hx2, hF⟩ := ob1_ex hF
    refine kw_ap X (r := .int b2) (As := [.int 2, .int p1]) (st := []) (c_X7_manyAt l D cI cC cR h0 h1 h2 h3 h4 p sv asd tx states len at_ letter one two number 2 p1 Z b2 hx2) vl_X7_37 yv_X7_manyAt ⟨Nat.le_of_ble_eq_true rfl, Nat.le_of_ble_eq_true rfl⟩ ⟨rfl, rfl⟩ ⟨Nat.zero_le _, Nat.zero_le _⟩ 0 rfl rfl rfl rfl (Nat.le_of_ble_eq_true rfl) dX7_unload_14 ?_
    refine kw_aload_n X dX7_unload_17 rfl 0 rfl ?_
    refine kw_iconst X dX7_unload_18 ci_2 ?_
    refine kw_iload_n X dX7_unload_19 rfl 1 rfl ?_
    obtain ⟨b3, hx3, hF⟩ := ob1_ex hF
    refine kw_ap X (r := .int b3) (As := [.int 2, .int p1]) (st := [.int b2]) (c_X7_brokenAt l D cI cC cR h0 h1 h2 h3 h4 p sv asd tx states len at_ letter one two number 2 p1 Z b3 hx3) vl_X7_106 yv_X7_brokenAt ⟨Nat.le_of_ble_eq_true rfl, Nat.le_of_ble_eq_true rfl⟩ ⟨rfl, rfl⟩ ⟨Nat.zero_le _, Nat.zero_le _⟩ 0 rfl rfl rfl rfl (Nat.le_of_ble_eq_true rfl) dX7_unload_20 ?_
    refine kw_isub X dX7_unload_23 ?_
    refine kw_iload_n X dX7_unload_24 rfl 3 rfl ?_
    refine kw_icmp_ge X 31 dX7_unload_25 (by decide) (fun q4 => ?_) (fun q4 => ?_)
    · replace hF := (if_neg q4).symm.trans hF
      refine kw_aload_n X dX7_unload_31 rfl 0 rfl ?_
      refine kw_iload_n X dX7_unload_32 rfl 2 rfl ?_
      obtain ⟨b5, hx5, hF⟩ := ob1_ex hF
      refine kw_ap X (r := .int b5) (As := [.int p2]) (st := []) (c_X7_roomOf l D cI cC cR h0 h1 h2 h3 h4 p sv asd tx states len at_ letter one two number p2 Z b5 hx5) vl_X7_51 yv_X7_roomOf ⟨Nat.le_of_ble_eq_true rfl, Nat.le_of_ble_eq_true rfl⟩ ⟨rfl, rfl⟩ ⟨Nat.zero_le _, Nat.zero_le _⟩ 0 rfl rfl rfl rfl (Nat.le_of_ble_eq_true rfl) dX7_unload_33 ?_
      refine kw_iload_n X dX7_unload_36 rfl 3 rfl ?_
      refine kw_icmp_ge X 43 dX7_unload_37 (by decide) (fun q6 => ?_) (fun q6 => ?_)
      · replace hF := (if_neg q6).symm.trans hF
        refine kw_aload_n X dX7_unload_43 rfl 0 rfl ?_
        obtain ⟨m7, b8, hx8, hF⟩ := ob2_ex hF
        refine kw_aev X (As := []) (st := []) E (c_X7_save l D cI cC cR h0 h1 h2 h3 h4 p sv asd tx states len at_ letter one two number Z m7 b8 hx8) vl_X7_54 yv_X7_save ⟨Nat.le_of_ble_eq_true rfl, Nat.le_of_ble_eq_true rfl⟩ ⟨rfl, rfl⟩ ⟨Nat.zero_le _, Nat.zero_le _⟩ 0 rfl rfl rfl rfl (Nat.le_of_ble_eq_true rfl) dX7_unload_44 ?_
        refine kw_iload_n X dX7_unload_47 rfl 3 rfl ?_
        refine kw_istore (lo' := [(0, .ref h0), (1, .int p1), (2, .int p2), (3, .int p3), (4, .int p3)]) X dX7_unload_48 (by decide) [1, 2, 3, 4, 0] rfl ?_
        refine kw_iconst X dX7_unload_50 ci_0 ?_
        refine kw_istore (lo' := [(0, .ref h0), (1, .int p1), (2, .int p2), (3, .int p3), (4, .int p3), (5, .int 0)]) X dX7_unload_51 (by decide) [1, 2, 3, 4, 5, 0] rfl ?_
        refine kw_loc (lo' := [(0, .ref h0), (1, .int p1), (2, .int p2), (4, .int p3), (5, .int 0)]) [0, 1, 2, 4, 5] rfl ?_
        obtain ⟨w42, hx, hF⟩ := ob1_ex hF
        have J : KW Γ 0 0 (wX7 cI h0 h1 h2 h3 h4 w42 m7 asd tx b8 len at_ letter one two number) [(0, .ref h0), (1, .int p1)] 106 [] := by
          refine kw_aload_n X dX7_unload_106 rfl 0 rfl ?_
          refine kw_iconst X dX7_unload_107 ci_2 ?_
          refine kw_iload_n X dX7_unload_108 rfl 1 rfl ?_
          obtain ⟨b43, hx43, hF⟩ := ob1_ex hF
          refine kw_ap X (r := .int b43) (As := [.int 2, .int p1]) (st := []) (c_X7_manyAt l D cI cC cR h0 h1 h2 h3 h4 w42 m7 asd tx b8 len at_ letter one two number 2 p1 Z b43 hx43) vl_X7_37 yv_X7_manyAt ⟨Nat.le_of_ble_eq_true rfl, Nat.le_of_ble_eq_true rfl⟩ ⟨rfl, rfl⟩ ⟨Nat.zero_le _, Nat.zero_le _⟩ 0 rfl rfl rfl rfl (Nat.le_of_ble_eq_true rfl) dX7_unload_109 ?_
          obtain ⟨rfl, rfl, rfl, rfl⟩ := si4 hF
          exact hret _ _ (vp_nar_int _) dX7_unload_112
        have hL53 : ∀ (F : Nat) (v4_44 : Int32) (v5_45 : Int32) (w46 : Nat → Int32), f_X7_unload_L53 p1 p2 F v4_44 v5_45 w46 = some (w42) → KW Γ 0 0 (wX7 cI h0 h1 h2 h3 h4 w46 m7 asd tx b8 len at_ letter one two number) [(0, .ref h0), (1, .int p1), (2, .int p2), (4, .int v4_44), (5, .int v5_45)] 53 [] := by
          intro F
          induction F with
          | zero => intro v4_44 v5_45 w46 hF; exact none_some hF
          | succ F ih53 =>
            intro v4_44 v5_45 w46 hF
            rw [f_X7_unload_L53] at hF
            refine kw_iload X dX7_unload_53 4 rfl ?_
            refine kw_aload_n X dX7_unload_55 rfl 0 rfl ?_
            refine kw_get X inX7 0 rfl rfl 0 (by decide) rfl gw_698 rfl dX7_unload_56 ?_
            refine kw_iconst X dX7_unload_59 ci_0 ?_
            obtain ⟨a47, hx, hF⟩ := ob1_ex hF
            obtain ⟨hin, hx⟩ := aget_ex hx
            refine kw_iald X 1 0 rfl rfl hin hx dX7_unload_60 ?_
            refine kw_icmp_ge X 106 dX7_unload_61 (by decide) (fun q48 => ?_) (fun q48 => ?_)
            · replace hF := (if_neg q48).symm.trans hF
              refine kw_loc (lo' := [(0, .ref h0), (1, .int p1)]) [0, 1] rfl ?_
              obtain rfl := si1 hF
              exact J
            · replace hF := (if_pos q48).symm.trans hF
              refine kw_iload X dX7_unload_64 3 rfl ?_
              refine kw_if_le X 106 dX7_unload_66 (by decide) (fun q49 => ?_) (fun q49 => ?_)
              · replace hF := (if_neg q49).symm.trans hF
                refine kw_loc (lo' := [(0, .ref h0), (1, .int p1)]) [0, 1] rfl ?_
                obtain rfl := si1 hF
                exact J
              · replace hF := (if_pos q49).symm.trans hF
                refine kw_aload_n X dX7_unload_69 rfl 0 rfl ?_
                refine kw_iload X dX7_unload_70 4 rfl ?_
                refine kw_iconst X dX7_unload_72 ci_2 ?_
                refine kw_iload_n X dX7_unload_73 rfl 1 rfl ?_
                obtain ⟨b50, hx50, hF⟩ := ob1_ex hF
                refine kw_ap X (r := .int b50) (As := [.int v5_45, .int 2, .int p1]) (st := []) (c_X7_isAt l D cI cC cR h0 h1 h2 h3 h4 w46 m7 asd tx b8 len at_ letter one two number v5_45 2 p1 b50 hx50) vl_X7_30 yv_X7_isAt ⟨Nat.le_of_ble_eq_true rfl, Nat.le_of_ble_eq_true rfl⟩ ⟨rfl, rfl⟩ ⟨Nat.zero_le _, Nat.zero_le _⟩ 0 rfl rfl rfl rfl (Nat.le_of_ble_eq_true rfl) dX7_unload_74 ?_
                obtain ⟨v4_56, w57, hx58, hF⟩ := ob2_ex hF
                have J : KW Γ 0 0 (wX7 cI h0 h1 h2 h3 h4 w57 m7 asd tx b8 len at_ letter one two number) [(0, .ref h0), (1, .int p1), (2, .int p2), (4, .int v4_56), (5, .int v5_45)] 100 [] := by
                  refine kw_iinc (lo' := [(0, .ref h0), (1, .int p1), (2, .int p2), (4, .int v4_56), (5, .int (v5_45 + 1))]) X dX7_unload_100 4 rfl (congrArg (fun w => v5_45 + w) ci_1) (by decide) [1, 2, 3, 4, 0] rfl ?_
                  refine kw_goto X 53 dX7_unload_103 (by decide) ?_
                  exact ih53 _ _ _ hF
                replace hF := hx58
                refine kw_if_eq X 100 dX7_unload_77 (by decide) (fun q51 => ?_) (fun q51 => ?_)
                · replace hF := (if_pos q51).symm.trans hF
                  obtain ⟨rfl, rfl⟩ := si2 hF
                  exact J
                · replace hF := (if_neg q51).symm.trans hF
                  refine kw_aload_n X dX7_unload_80 rfl 0 rfl ?_
                  refine kw_iload X dX7_unload_81 4 rfl ?_
                  obtain ⟨b59, hx59, hF⟩ := ob1_ex hF
                  refine kw_ap X (r := .int b59) (As := [.int v5_45]) (st := []) (c_X7_isBroken l D cI cC cR h0 h1 h2 h3 h4 w46 m7 asd tx b8 len at_ letter one two number v5_45 b59 hx59) vl_X7_33 yv_X7_isBroken ⟨Nat.le_of_ble_eq_true rfl, Nat.le_of_ble_eq_true rfl⟩ ⟨rfl, rfl⟩ ⟨Nat.zero_le _, Nat.zero_le _⟩ 0 rfl rfl rfl rfl (Nat.le_of_ble_eq_true rfl) dX7_unload_83 ?_
                  refine kw_if_ne X 100 dX7_unload_86 (by decide) (fun q60 => ?_) (fun q60 => ?_)
                  · replace hF := (if_neg q60).symm.trans hF
                    obtain ⟨rfl, rfl⟩ := si2 hF
                    exact J
                  · replace hF := (if_pos q60).symm.trans hF
                    refine kw_aload_n X dX7_unload_89 rfl 0 rfl ?_
                    refine kw_iload X dX7_unload_90 4 rfl ?_
                    refine kw_iconst X dX7_unload_92 ci_0 ?_
                    refine kw_iload_n X dX7_unload_93 rfl 2 rfl ?_
                    obtain ⟨m61, hx61, hF⟩ := ob1_ex hF
                    refine kw_aev X (As := [.int v5_45, .int 0, .int p2]) (st := []) E (c_X7_goes l D cI cC cR h0 h1 h2 h3 h4 w46 m7 asd tx b8 len at_ letter one two number v5_45 0 p2 m61 hx61) vl_X7_57 yv_X7_goes ⟨Nat.le_of_ble_eq_true rfl, Nat.le_of_ble_eq_true rfl⟩ ⟨rfl, rfl⟩ ⟨Nat.zero_le _, Nat.zero_le _⟩ 0 rfl rfl rfl rfl (Nat.le_of_ble_eq_true rfl) dX7_unload_94 ?_
                    refine kw_iinc (lo' := [(0, .ref h0), (1, .int p1), (2, .int p2), (4, .int (v4_44 + (-1))), (5, .int v5_45)]) X dX7_unload_97 3 rfl (congrArg (fun w => v4_44 + w) ci_m1) (by decide) [1, 2, 3, 0, 4] rfl ?_
                    obtain ⟨rfl, rfl⟩ := si2 hF
                    exact J
        exact hL53 Z _ _ _ hx
      · replace hF := (if_pos q6).symm.trans hF
        refine kw_bipush X dX7_unload_40 cb_m3 ?_
        obtain ⟨rfl, rfl, rfl, rfl⟩ := si4 hF
        exact hret _ _ (vp_nar_int _) dX7_unload_42
    · replace hF := (if_pos q4).symm.trans hF
      refine kw_bipush X dX7_unload_28 cb_m2 ?_
      obtain ⟨rfl, rfl, rfl, rfl⟩ := si4 hF
      exact hret _ _ (vp_nar_int _) dX7_unload_30
  · replace hF := (if_pos q1).symm.trans hF
    refine kw_iconst X dX7_unload_9 ci_m1 ?_
    obtain ⟨rfl, rfl, rfl, rfl⟩ := si4 hF
    exact hret _ _ (vp_nar_int _) dX7_unload_10
-- X7_toWorkshop
def f_X7_toWorkshop_L31 (p1 : Int32) : Nat → Int32 → (Nat → Int32) → Option ((Nat → Int32))
  | 0, _, _ => none
  | F + 1, v3_35, w36 => ob1 (aget 986 w36 0) (fun a37 => (if v3_35 < a37 then (ob1 (f_X7_isAt w36 v3_35 2 p1) (fun (b39 : Int32) => (ob1 (if b39 = 0 then (some w36) else (ob1 (f_X7_isBroken w36 v3_35) (fun (b47 : Int32) => (if b47 = 0 then (some w36) else (ob1 (f_X7_goes w36 v3_35 3 0) (fun (m49 : Nat → Int32) => (some m49))))))) (fun (w45 : Nat → Int32) => (f_X7_toWorkshop_L31 p1 F (v3_35 + 1) w45))))) else (some (w36))))
def f_X7_toWorkshop (Z : Nat) (p : Nat → Int32) (sv : Nat → Int32) (states : Int32) (p1 : Int32) : Option (Int32 × (Nat → Int32) × (Nat → Int32) × Int32) :=
  (if (f_X7_in p1 0 1) = 0 then (some ((-1), p, sv, states)) else (ob1 (f_X7_brokenAt Z p 2 p1) (fun (b2 : Int32) => (if b2 = 0 then (some ((-2), p, sv, states)) else (ob2 (f_X7_save Z p sv states) (fun (m4 : Nat → Int32) (b5 : Int32) => (ob1 (f_X7_toWorkshop_L31 p1 Z 0 p) (fun (w34 : Nat → Int32) => (some (b2, w34, m4, b5))))))))))
abbrev rm_X7_toWorkshop : Room := { frames := 2, cells := 0, slots := 0, locals := 47 }
set_option maxHeartbeats 4000000 in
set_option maxRecDepth 100000 in
theorem c_X7_toWorkshop (l : Launch) (D : va_G) (cI cC cR : ClassId) (h0 h1 h2 h3 h4 : Nat) (p : Nat → Int32) (sv : Nat → Int32) (asd : Nat → Int32) (tx : Nat → Int32) (states : Int32) (len : Int32) (at_ : Int32) (letter : Int32) (one : Int32) (two : Int32) (number : Int32) (p1 : Int32) (Z : Nat) (r : Int32) (p' : Nat → Int32) (sv' : Nat → Int32) (states' : Int32) (hF : f_X7_toWorkshop Z p sv states p1 = some (r, p', sv', states')) : MEq l yX7_toWorkshop cX7_toWorkshop 4 (some .int) rm_X7_toWorkshop D (TY cI cC cR) [.ref h0, .int p1] (wX7 cI h0 h1 h2 h3 h4 p sv asd tx states len at_ letter one two number) (wX7 cI h0 h1 h2 h3 h4 p' sv' asd tx states' len at_ letter one two number) (some (.int r)) := by
  refine me_e pn_X7 (Nat.le_of_ble_eq_true rfl) rfl (fun Γ X E hret => ?_)
  unfold f_X7_toWorkshop at hF
  refine kw_iload_n X dX7_toWorkshop_0 rfl 1 rfl ?_
  refine kw_iconst X dX7_toWorkshop_1 ci_0 ?_
  refine kw_iconst X dX7_toWorkshop_2 ci_1 ?_
  refine kw_sp X (r := .int (f_X7_in p1 0 1)) (As := [.int p1, .int 0, .int 1]) (st := []) (c_X7_in l D cI cC cR  p1 0 1 (f_X7_in p1 0 1) rfl) vl_X7_22 yv_X7_in ⟨Nat.le_of_ble_eq_true rfl, Nat.le_of_ble_eq_true rfl⟩ ⟨rfl, rfl⟩ ⟨Nat.zero_le _, Nat.zero_le _⟩ [] rfl rfl rfl rfl (Nat.le_of_ble_eq_true rfl) dX7_toWorkshop_3 ?_
  refine kw_if_ne X 11 dX7_toWorkshop_6 (by decide) (fun q1 => ?_) (fun q1 => ?_)
  · replace hF := (if_neg q1).symm.trans hF
    refine kw_aload_n X dX7_toWorkshop_11 rfl 0 rfl ?_
    refine kw_iconst X dX7_toWorkshop_12 ci_2 ?_
    refine kw_iload_n X dX7_toWorkshop_13 rfl 1 rfl ?_
    obtain ⟨b2, hx2, hF⟩ := ob1_ex hF
    refine kw_ap X (r := .int b2) (As := [.int 2, .int p1]) (st := []) (c_X7_brokenAt l D cI cC cR h0 h1 h2 h3 h4 p sv asd tx states len at_ letter one two number 2 p1 Z b2 hx2) vl_X7_106 yv_X7_brokenAt ⟨Nat.le_of_ble_eq_true rfl, Nat.le_of_ble_eq_true rfl⟩ ⟨rfl, rfl⟩ ⟨Nat.zero_le _, Nat.zero_le _⟩ 0 rfl rfl rfl rfl (Nat.le_of_ble_eq_true rfl) dX7_toWorkshop_14 ?_
    refine kw_istore_n (lo' := [(0, .ref h0), (1, .int p1), (2, .int b2)]) X dX7_toWorkshop_17 rfl (by decide) [1, 2, 0] rfl ?_
    refine kw_iload_n X dX7_toWorkshop_18 rfl 2 rfl ?_
    refine kw_if_ne X 25 dX7_toWorkshop_19 (by decide) (fun q3 => ?_) (fun q3 => ?_)
    · replace hF := (if_neg q3).symm.trans hF
      refine kw_aload_n X dX7_toWorkshop_25 rfl 0 rfl ?_
      obtain ⟨m4, b5, hx5, hF⟩ := ob2_ex hF
      refine kw_aev X (As := []) (st := []) E (c_X7_save l D cI cC cR h0 h1 h2 h3 h4 p sv asd tx states len at_ letter one two number Z m4 b5 hx5) vl_X7_54 yv_X7_save ⟨Nat.le_of_ble_eq_true rfl, Nat.le_of_ble_eq_true rfl⟩ ⟨rfl, rfl⟩ ⟨Nat.zero_le _, Nat.zero_le _⟩ 0 rfl rfl rfl rfl (Nat.le_of_ble_eq_true rfl) dX7_toWorkshop_26 ?_
      refine kw_iconst X dX7_toWorkshop_29 ci_0 ?_
      refine kw_istore_n (lo' := [(0, .ref h0), (1, .int p1), (2, .int b2), (3, .int 0)]) X dX7_toWorkshop_30 rfl (by decide) [1, 2, 3, 0] rfl ?_
      obtain ⟨w34, hx, hF⟩ := ob1_ex hF
      have J : KW Γ 0 0 (wX7 cI h0 h1 h2 h3 h4 w34 m4 asd tx b5 len at_ letter one two number) [(2, .int b2)] 72 [] := by
        refine kw_iload_n X dX7_toWorkshop_72 rfl 0 rfl ?_
        obtain ⟨rfl, rfl, rfl, rfl⟩ := si4 hF
        exact hret _ _ (vp_nar_int _) dX7_toWorkshop_73
      have hL31 : ∀ (F : Nat) (v3_35 : Int32) (w36 : Nat → Int32), f_X7_toWorkshop_L31 p1 F v3_35 w36 = some (w34) → KW Γ 0 0 (wX7 cI h0 h1 h2 h3 h4 w36 m4 asd tx b5 len at_ letter one two number) [(0, .ref h0), (1, .int p1), (2, .int b2), (3, .int v3_35)] 31 [] := by
        intro F
        induction F with
        | zero => intro v3_35 w36 hF; exact none_some hF
        | succ F ih31 =>
          intro v3_35 w36 hF
          rw [f_X7_toWorkshop_L31] at hF
          refine kw_iload_n X dX7_toWorkshop_31 rfl 3 rfl ?_
          refine kw_aload_n X dX7_toWorkshop_32 rfl 0 rfl ?_
          refine kw_get X inX7 0 rfl rfl 0 (by decide) rfl gw_698 rfl dX7_toWorkshop_33 ?_
          refine kw_iconst X dX7_toWorkshop_36 ci_0 ?_
          obtain ⟨a37, hx, hF⟩ := ob1_ex hF
          obtain ⟨hin, hx⟩ := aget_ex hx
          refine kw_iald X 1 0 rfl rfl hin hx dX7_toWorkshop_37 ?_
          refine kw_icmp_ge X 72 dX7_toWorkshop_38 (by decide) (fun q38 => ?_) (fun q38 => ?_)
          · replace hF := (if_neg q38).symm.trans hF
            refine kw_loc (lo' := [(2, .int b2)]) [2] rfl ?_
            obtain rfl := si1 hF
            exact J
          · replace hF := (if_pos q38).symm.trans hF
            refine kw_aload_n X dX7_toWorkshop_41 rfl 0 rfl ?_
            refine kw_iload_n X dX7_toWorkshop_42 rfl 3 rfl ?_
            refine kw_iconst X dX7_toWorkshop_43 ci_2 ?_
            refine kw_iload_n X dX7_toWorkshop_44 rfl 1 rfl ?_
            obtain ⟨b39, hx39, hF⟩ := ob1_ex hF
            refine kw_ap X (r := .int b39) (As := [.int v3_35, .int 2, .int p1]) (st := []) (c_X7_isAt l D cI cC cR h0 h1 h2 h3 h4 w36 m4 asd tx b5 len at_ letter one two number v3_35 2 p1 b39 hx39) vl_X7_30 yv_X7_isAt ⟨Nat.le_of_ble_eq_true rfl, Nat.le_of_ble_eq_true rfl⟩ ⟨rfl, rfl⟩ ⟨Nat.zero_le _, Nat.zero_le _⟩ 0 rfl rfl rfl rfl (Nat.le_of_ble_eq_true rfl) dX7_toWorkshop_45 ?_
            obtain ⟨w45, hx46, hF⟩ := ob1_ex hF
            have J : KW Γ 0 0 (wX7 cI h0 h1 h2 h3 h4 w45 m4 asd tx b5 len at_ letter one two number) [(0, .ref h0), (1, .int p1), (2, .int b2), (3, .int v3_35)] 66 [] := by
              refine kw_iinc (lo' := [(0, .ref h0), (1, .int p1), (2, .int b2), (3, .int (v3_35 + 1))]) X dX7_toWorkshop_66 3 rfl (congrArg (fun w => v3_35 + w) ci_1) (by decide) [1, 2, 3, 0] rfl ?_
              refine kw_goto X 31 dX7_toWorkshop_69 (by decide) ?_
              exact ih31 _ _ hF
            replace hF := hx46
            refine kw_if_eq X 66 dX7_toWorkshop_48 (by decide) (fun q40 => ?_) (fun q40 => ?_)
            · replace hF := (if_pos q40).symm.trans hF
              obtain rfl := si1 hF
              exact J
            · replace hF := (if_neg q40).symm.trans hF
              refine kw_aload_n X dX7_toWorkshop_51 rfl 0 rfl ?_
              refine kw_iload_n X dX7_toWorkshop_52 rfl 3 rfl ?_
              obtain ⟨b47, hx47, hF⟩ := ob1_ex hF
              refine kw_ap X (r := .int b47) (As := [.int v3_35]) (st := []) (c_X7_isBroken l D cI cC cR h0 h1 h2 h3 h4 w36 m4 asd tx b5 len at_ letter one two number v3_35 b47 hx47) vl_X7_33 yv_X7_isBroken ⟨Nat.le_of_ble_eq_true rfl, Nat.le_of_ble_eq_true rfl⟩ ⟨rfl, rfl⟩ ⟨Nat.zero_le _, Nat.zero_le _⟩ 0 rfl rfl rfl rfl (Nat.le_of_ble_eq_true rfl) dX7_toWorkshop_53 ?_
              refine kw_if_eq X 66 dX7_toWorkshop_56 (by decide) (fun q48 => ?_) (fun q48 => ?_)
              · replace hF := (if_pos q48).symm.trans hF
                obtain rfl := si1 hF
                exact J
              · replace hF := (if_neg q48).symm.trans hF
                refine kw_aload_n X dX7_toWorkshop_59 rfl 0 rfl ?_
                refine kw_iload_n X dX7_toWorkshop_60 rfl 3 rfl ?_
                refine kw_iconst X dX7_toWorkshop_61 ci_3 ?_
                refine kw_iconst X dX7_toWorkshop_62 ci_0 ?_
                obtain ⟨m49, hx49, hF⟩ := ob1_ex hF
                refine kw_aev X (As := [.int v3_35, .int 3, .int 0]) (st := []) E (c_X7_goes l D cI cC cR h0 h1 h2 h3 h4 w36 m4 asd tx b5 len at_ letter one two number v3_35 3 0 m49 hx49) vl_X7_57 yv_X7_goes ⟨Nat.le_of_ble_eq_true rfl, Nat.le_of_ble_eq_true rfl⟩ ⟨rfl, rfl⟩ ⟨Nat.zero_le _, Nat.zero_le _⟩ 0 rfl rfl rfl rfl (Nat.le_of_ble_eq_true rfl) dX7_toWorkshop_63 ?_
                obtain rfl := si1 hF
                exact J
      exact hL31 Z _ _ hx
    · replace hF := (if_pos q3).symm.trans hF
      refine kw_bipush X dX7_toWorkshop_22 cb_m2 ?_
      obtain ⟨rfl, rfl, rfl, rfl⟩ := si4 hF
      exact hret _ _ (vp_nar_int _) dX7_toWorkshop_24
  · replace hF := (if_pos q1).symm.trans hF
    refine kw_iconst X dX7_toWorkshop_9 ci_m1 ?_
    obtain ⟨rfl, rfl, rfl, rfl⟩ := si4 hF
    exact hret _ _ (vp_nar_int _) dX7_toWorkshop_10
-- X7_leastInShop
def f_X7_leastInShop_L4 (p : Nat → Int32) (p1 : Int32) : Nat → Int32 → Int32 → Option (Int32)
  | 0, _, _ => none
  | F + 1, v2_38, v3_39 => ob1 (aget 986 p 0) (fun a40 => (if v3_39 < a40 then ob1 (aget 986 p (1 + v3_39)) (fun a42 => (ob1 (if a42 = 3 then (if v3_39 = p1 then (some 0) else (if v2_38 < 0 then (some 1) else ob1 (aget 986 p (121 + v3_39)) (fun a58 => ob1 (aget 986 p (121 + v2_38)) (fun a59 => (if a58 < a59 then (some 1) else (some 0)))))) else (some 0)) (fun (x51 : Int32) => (pl1 (if x51 = 0 then v2_38 else v3_39) (fun (x54 : Int32) => (f_X7_leastInShop_L4 p p1 F x54 (v3_39 + 1))))))) else (some (v2_38))))
def f_X7_leastInShop (Z : Nat) (p : Nat → Int32) (p1 : Int32) : Option (Int32) :=
  (ob1 (f_X7_leastInShop_L4 p p1 Z (-1) 0) (fun (e37 : Int32) => (some e37)))
abbrev rm_X7_leastInShop : Room := { frames := 0, cells := 0, slots := 0, locals := 0 }
set_option maxHeartbeats 4000000 in
set_option maxRecDepth 100000 in
theorem c_X7_leastInShop (l : Launch) (D : va_G) (cI cC cR : ClassId) (h0 h1 h2 h3 h4 : Nat) (p : Nat → Int32) (sv : Nat → Int32) (asd : Nat → Int32) (tx : Nat → Int32) (states : Int32) (len : Int32) (at_ : Int32) (letter : Int32) (one : Int32) (two : Int32) (number : Int32) (p1 : Int32) (Z : Nat) (r : Int32) (hF : f_X7_leastInShop Z p p1 = some r) : MPi l yX7_leastInShop cX7_leastInShop 5 (some .int) rm_X7_leastInShop D (TY cI cC cR) [.ref h0, .int p1] (wX7 cI h0 h1 h2 h3 h4 p sv asd tx states len at_ letter one two number) (.int r) := by
  refine me_p pn_X7 (Nat.le_of_ble_eq_true rfl) rfl (fun Γ X hret => ?_)
  unfold f_X7_leastInShop at hF
  refine kw_iconst X dX7_leastInShop_0 ci_m1 ?_
  refine kw_istore_n (lo' := [(0, .ref h0), (1, .int p1), (2, .int (-1))]) X dX7_leastInShop_1 rfl (by decide) [1, 2, 0] rfl ?_
  refine kw_iconst X dX7_leastInShop_2 ci_0 ?_
  refine kw_istore_n (lo' := [(0, .ref h0), (1, .int p1), (2, .int (-1)), (3, .int 0)]) X dX7_leastInShop_3 rfl (by decide) [1, 2, 3, 0] rfl ?_
  obtain ⟨e37, hx, hF⟩ := ob1_ex hF
  have J : KW Γ 0 0 (wX7 cI h0 h1 h2 h3 h4 p sv asd tx states len at_ letter one two number) [(2, .int e37)] 80 [] := by
    refine kw_iload_n X dX7_leastInShop_80 rfl 0 rfl ?_
    obtain rfl := si1 hF
    exact hret _ _ _ (vp_nar_int _) dX7_leastInShop_81
  have hL4 : ∀ (F : Nat) (v2_38 : Int32) (v3_39 : Int32), f_X7_leastInShop_L4 p p1 F v2_38 v3_39 = some (e37) → KW Γ 0 0 (wX7 cI h0 h1 h2 h3 h4 p sv asd tx states len at_ letter one two number) [(0, .ref h0), (1, .int p1), (2, .int v2_38), (3, .int v3_39)] 4 [] := by
    intro F
    induction F with
    | zero => intro v2_38 v3_39 hF; exact none_some hF
    | succ F ih4 =>
      intro v2_38 v3_39 hF
      rw [f_X7_leastInShop_L4] at hF
      refine kw_iload_n X dX7_leastInShop_4 rfl 3 rfl ?_
      refine kw_aload_n X dX7_leastInShop_5 rfl 0 rfl ?_
      refine kw_get X inX7 0 rfl rfl 0 (by decide) rfl gw_698 rfl dX7_leastInShop_6 ?_
      refine kw_iconst X dX7_leastInShop_9 ci_0 ?_
      obtain ⟨a40, hx, hF⟩ := ob1_ex hF
      obtain ⟨hin, hx⟩ := aget_ex hx
      refine kw_iald X 1 0 rfl rfl hin hx dX7_leastInShop_10 ?_
      refine kw_icmp_ge X 80 dX7_leastInShop_11 (by decide) (fun q41 => ?_) (fun q41 => ?_)
      · replace hF := (if_neg q41).symm.trans hF
        refine kw_loc (lo' := [(2, .int v2_38)]) [2] rfl ?_
        obtain rfl := si1 hF
        exact J
      · replace hF := (if_pos q41).symm.trans hF
        refine kw_aload_n X dX7_leastInShop_14 rfl 0 rfl ?_
        refine kw_get X inX7 0 rfl rfl 0 (by decide) rfl gw_698 rfl dX7_leastInShop_15 ?_
        refine kw_iconst X dX7_leastInShop_18 ci_1 ?_
        refine kw_iload_n X dX7_leastInShop_19 rfl 3 rfl ?_
        refine kw_iadd X dX7_leastInShop_20 ?_
        obtain ⟨a42, hx, hF⟩ := ob1_ex hF
        obtain ⟨hin, hx⟩ := aget_ex hx
        refine kw_iald X 1 0 rfl rfl hin hx dX7_leastInShop_21 ?_
        refine kw_iconst X dX7_leastInShop_22 ci_3 ?_
        obtain ⟨x51, hx52, hF⟩ := ob1_ex hF
        have J : KW Γ 0 0 (wX7 cI h0 h1 h2 h3 h4 p sv asd tx states len at_ letter one two number) [(0, .ref h0), (1, .int p1), (2, .int v2_38), (3, .int v3_39)] 61 [.int x51] := by
          refine kw_istore (lo' := [(0, .ref h0), (1, .int p1), (2, .int v2_38), (3, .int v3_39), (4, .int x51)]) X dX7_leastInShop_61 (by decide) [1, 2, 3, 4, 0] rfl ?_
          refine kw_iload X dX7_leastInShop_63 4 rfl ?_
          obtain ⟨x54, hx55, hF⟩ := pl1_ex hF
          have J : KW Γ 0 0 (wX7 cI h0 h1 h2 h3 h4 p sv asd tx states len at_ letter one two number) [(0, .ref h0), (1, .int p1), (3, .int v3_39)] 73 [.int x54] := by
            refine kw_istore_n (lo' := [(0, .ref h0), (1, .int p1), (2, .int x54), (3, .int v3_39)]) X dX7_leastInShop_73 rfl (by decide) [1, 2, 0, 3] rfl ?_
            refine kw_iinc (lo' := [(0, .ref h0), (1, .int p1), (2, .int x54), (3, .int (v3_39 + 1))]) X dX7_leastInShop_74 3 rfl (congrArg (fun w => v3_39 + w) ci_1) (by decide) [1, 2, 3, 0] rfl ?_
            refine kw_goto X 4 dX7_leastInShop_77 (by decide) ?_
            exact ih4 _ _ hF
          replace hF := hx55
          refine kw_if_eq X 72 dX7_leastInShop_65 (by decide) (fun q53 => ?_) (fun q53 => ?_)
          · replace hF := (if_pos q53).symm.trans hF
            refine kw_iload_n X dX7_leastInShop_72 rfl 2 rfl ?_
            refine kw_loc (lo' := [(0, .ref h0), (1, .int p1), (3, .int v3_39)]) [0, 1, 3] rfl ?_
            obtain rfl := ti1 hF
            exact J
          · replace hF := (if_neg q53).symm.trans hF
            refine kw_iload_n X dX7_leastInShop_68 rfl 3 rfl ?_
            refine kw_goto X 73 dX7_leastInShop_69 (by decide) ?_
            refine kw_loc (lo' := [(0, .ref h0), (1, .int p1), (3, .int v3_39)]) [0, 1, 3] rfl ?_
            obtain rfl := ti1 hF
            exact J
        replace hF := hx52
        refine kw_icmp_ne X 60 dX7_leastInShop_23 (by decide) (fun q43 => ?_) (fun q43 => ?_)
        · replace hF := (if_neg q43).symm.trans hF
          refine kw_iconst X dX7_leastInShop_60 ci_0 ?_
          obtain rfl := si1 hF
          exact J
        · replace hF := (if_pos q43).symm.trans hF
          refine kw_iload_n X dX7_leastInShop_26 rfl 3 rfl ?_
          refine kw_iload_n X dX7_leastInShop_27 rfl 1 rfl ?_
          refine kw_icmp_eq X 60 dX7_leastInShop_28 (by decide) (fun q56 => ?_) (fun q56 => ?_)
          · replace hF := (if_pos q56).symm.trans hF
            refine kw_iconst X dX7_leastInShop_60 ci_0 ?_
            obtain rfl := si1 hF
            exact J
          · replace hF := (if_neg q56).symm.trans hF
            refine kw_iload_n X dX7_leastInShop_31 rfl 2 rfl ?_
            refine kw_if_lt X 56 dX7_leastInShop_32 (by decide) (fun q57 => ?_) (fun q57 => ?_)
            · replace hF := (if_pos q57).symm.trans hF
              refine kw_iconst X dX7_leastInShop_56 ci_1 ?_
              refine kw_goto X 61 dX7_leastInShop_57 (by decide) ?_
              obtain rfl := si1 hF
              exact J
            · replace hF := (if_neg q57).symm.trans hF
              refine kw_aload_n X dX7_leastInShop_35 rfl 0 rfl ?_
              refine kw_get X inX7 0 rfl rfl 0 (by decide) rfl gw_698 rfl dX7_leastInShop_36 ?_
              refine kw_bipush X dX7_leastInShop_39 cb_121 ?_
              refine kw_iload_n X dX7_leastInShop_41 rfl 3 rfl ?_
              refine kw_iadd X dX7_leastInShop_42 ?_
              obtain ⟨a58, hx, hF⟩ := ob1_ex hF
              obtain ⟨hin, hx⟩ := aget_ex hx
              refine kw_iald X 1 0 rfl rfl hin hx dX7_leastInShop_43 ?_
              refine kw_aload_n X dX7_leastInShop_44 rfl 0 rfl ?_
              refine kw_get X inX7 0 rfl rfl 0 (by decide) rfl gw_698 rfl dX7_leastInShop_45 ?_
              refine kw_bipush X dX7_leastInShop_48 cb_121 ?_
              refine kw_iload_n X dX7_leastInShop_50 rfl 2 rfl ?_
              refine kw_iadd X dX7_leastInShop_51 ?_
              obtain ⟨a59, hx, hF⟩ := ob1_ex hF
              obtain ⟨hin, hx⟩ := aget_ex hx
              refine kw_iald X 1 0 rfl rfl hin hx dX7_leastInShop_52 ?_
              refine kw_icmp_ge X 60 dX7_leastInShop_53 (by decide) (fun q60 => ?_) (fun q60 => ?_)
              · replace hF := (if_neg q60).symm.trans hF
                refine kw_iconst X dX7_leastInShop_60 ci_0 ?_
                obtain rfl := si1 hF
                exact J
              · replace hF := (if_pos q60).symm.trans hF
                refine kw_iconst X dX7_leastInShop_56 ci_1 ?_
                refine kw_goto X 61 dX7_leastInShop_57 (by decide) ?_
                obtain rfl := si1 hF
                exact J
  exact hL4 Z _ _ hx
-- X7_mend
def f_X7_mend (Z : Nat) (p : Nat → Int32) (sv : Nat → Int32) (states : Int32) (p1 : Int32) : Option (Int32 × (Nat → Int32) × (Nat → Int32) × Int32) :=
  (if (f_X7_isStand p1) = 0 then (some ((-1), p, sv, states)) else (ob1 (f_X7_manyIn Z p 3) (fun (b2 : Int32) => (if b2 < 2 then (some ((-2), p, sv, states)) else (ob1 (f_X7_canSpend Z p 3) (fun (b4 : Int32) => (if b4 = 0 then (some ((-2), p, sv, states)) else (ob1 (f_X7_roomOf Z p p1) (fun (b6 : Int32) => (if 0 < b6 then (ob2 (f_X7_save Z p sv states) (fun (m8 : Nat → Int32) (b9 : Int32) => (ob1 (f_X7_leastInShop Z p (-1)) (fun (b10 : Int32) => (ob1 (f_X7_leastInShop Z p b10) (fun (b11 : Int32) => (pl1 (if b10 < b11 then b10 else b11) (fun (x13 : Int32) => ob1 (aget 986 p (121 + b10)) (fun a15 => (ob1 (f_X7_goes p ((b10 + b11) - x13) 4 0) (fun (m16 : Nat → Int32) => (ob1 (f_X7_goes m16 x13 0 p1) (fun (m17 : Nat → Int32) => ob1 (aset 986 m17 (121 + x13) (a15 / 4)) (fun m18 => (ob1 (f_X7_spends m18 3) (fun (m19 : Nat → Int32) => (some (x13, m19, m8, b9)))))))))))))))))) else (some ((-3), p, sv, states))))))))))))
abbrev rm_X7_mend : Room := { frames := 3, cells := 0, slots := 0, locals := 68 }
set_option maxHeartbeats 4000000 in
set_option maxRecDepth 100000 in
theorem c_X7_mend (l : Launch) (D : va_G) (cI cC cR : ClassId) (h0 h1 h2 h3 h4 : Nat) (p : Nat → Int32) (sv : Nat → Int32) (asd : Nat → Int32) (tx : Nat → Int32) (states : Int32) (len : Int32) (at_ : Int32) (letter : Int32) (one : Int32) (two : Int32) (number : Int32) (p1 : Int32) (Z : Nat) (r : Int32) (p' : Nat → Int32) (sv' : Nat → Int32) (states' : Int32) (hF : f_X7_mend Z p sv states p1 = some (r, p', sv', states')) : MEq l yX7_mend cX7_mend 6 (some .int) rm_X7_mend D (TY cI cC cR) [.ref h0, .int p1] (wX7 cI h0 h1 h2 h3 h4 p sv asd tx states len at_ letter one two number) (wX7 cI h0 h1 h2 h3 h4 p' sv' asd tx states' len at_ letter one two number) (some (.int r)) := by
  refine me_e pn_X7 (Nat.le_of_ble_eq_true rfl) rfl (fun Γ X E hret => ?_)
  unfold f_X7_mend at hF
  refine kw_iload_n X dX7_mend_0 rfl 1 rfl ?_
  refine kw_sp X (r := .int (f_X7_isStand p1)) (As := [.int p1]) (st := []) (c_X7_isStand l D cI cC cR  p1 (f_X7_isStand p1) rfl) vl_X7_45 yv_X7_isStand ⟨Nat.le_of_ble_eq_true rfl, Nat.le_of_ble_eq_true rfl⟩ ⟨rfl, rfl⟩ ⟨Nat.zero_le _, Nat.zero_le _⟩ [] rfl rfl rfl rfl (Nat.le_of_ble_eq_true rfl) dX7_mend_1 ?_
  refine kw_if_ne X 9 dX7_mend_4 (by decide) (fun q1 => ?_) (fun q1 => ?_)
  · replace hF := (if_neg q1).symm.trans hF
    refine kw_aload_n X dX7_mend_9 rfl 0 rfl ?_
    refine kw_iconst X dX7_mend_10 ci_3 ?_
    obtain ⟨b2, hx2, hF⟩ := ob1_ex hF
    refine kw_ap X (r := .int b2) (As := [.int 3]) (st := []) (c_X7_manyIn l D cI cC cR h0 h1 h2 h3 h4 p sv asd tx states len at_ letter one two number 3 Z b2 hx2) vl_X7_41 yv_X7_manyIn ⟨Nat.le_of_ble_eq_true rfl, Nat.le_of_ble_eq_true rfl⟩ ⟨rfl, rfl⟩ ⟨Nat.zero_le _, Nat.zero_le _⟩ 0 rfl rfl rfl rfl (Nat.le_of_ble_eq_true rfl) dX7_mend_11 ?_
    refine kw_iconst X dX7_mend_14 ci_2 ?_
    refine kw_icmp_lt X 26 dX7_mend_15 (by decide) (fun q3 => ?_) (fun q3 => ?_)
    · replace hF := (if_pos q3).symm.trans hF
      refine kw_bipush X dX7_mend_26 cb_m2 ?_
      obtain ⟨rfl, rfl, rfl, rfl⟩ := si4 hF
      exact hret _ _ (vp_nar_int _) dX7_mend_28
    · replace hF := (if_neg q3).symm.trans hF
      refine kw_aload_n X dX7_mend_18 rfl 0 rfl ?_
      refine kw_iconst X dX7_mend_19 ci_3 ?_
      obtain ⟨b4, hx4, hF⟩ := ob1_ex hF
      refine kw_ap X (r := .int b4) (As := [.int 3]) (st := []) (c_X7_canSpend l D cI cC cR h0 h1 h2 h3 h4 p sv asd tx states len at_ letter one two number 3 Z b4 hx4) vl_X7_48 yv_X7_canSpend ⟨Nat.le_of_ble_eq_true rfl, Nat.le_of_ble_eq_true rfl⟩ ⟨rfl, rfl⟩ ⟨Nat.zero_le _, Nat.zero_le _⟩ 0 rfl rfl rfl rfl (Nat.le_of_ble_eq_true rfl) dX7_mend_20 ?_
      refine kw_if_ne X 29 dX7_mend_23 (by decide) (fun q5 => ?_) (fun q5 => ?_)
      · replace hF := (if_neg q5).symm.trans hF
        refine kw_aload_n X dX7_mend_29 rfl 0 rfl ?_
        refine kw_iload_n X dX7_mend_30 rfl 1 rfl ?_
        obtain ⟨b6, hx6, hF⟩ := ob1_ex hF
        refine kw_ap X (r := .int b6) (As := [.int p1]) (st := []) (c_X7_roomOf l D cI cC cR h0 h1 h2 h3 h4 p sv asd tx states len at_ letter one two number p1 Z b6 hx6) vl_X7_51 yv_X7_roomOf ⟨Nat.le_of_ble_eq_true rfl, Nat.le_of_ble_eq_true rfl⟩ ⟨rfl, rfl⟩ ⟨Nat.zero_le _, Nat.zero_le _⟩ 0 rfl rfl rfl rfl (Nat.le_of_ble_eq_true rfl) dX7_mend_31 ?_
        refine kw_if_gt X 40 dX7_mend_34 (by decide) (fun q7 => ?_) (fun q7 => ?_)
        · replace hF := (if_pos q7).symm.trans hF
          refine kw_aload_n X dX7_mend_40 rfl 0 rfl ?_
          obtain ⟨m8, b9, hx9, hF⟩ := ob2_ex hF
          refine kw_aev X (As := []) (st := []) E (c_X7_save l D cI cC cR h0 h1 h2 h3 h4 p sv asd tx states len at_ letter one two number Z m8 b9 hx9) vl_X7_54 yv_X7_save ⟨Nat.le_of_ble_eq_true rfl, Nat.le_of_ble_eq_true rfl⟩ ⟨rfl, rfl⟩ ⟨Nat.zero_le _, Nat.zero_le _⟩ 0 rfl rfl rfl rfl (Nat.le_of_ble_eq_true rfl) dX7_mend_41 ?_
          refine kw_aload_n X dX7_mend_44 rfl 0 rfl ?_
          refine kw_iconst X dX7_mend_45 ci_m1 ?_
          obtain ⟨b10, hx10, hF⟩ := ob1_ex hF
          refine kw_ap X (r := .int b10) (As := [.int (-1)]) (st := []) (c_X7_leastInShop l D cI cC cR h0 h1 h2 h3 h4 p m8 asd tx b9 len at_ letter one two number (-1) Z b10 hx10) vl_X7_109 yv_X7_leastInShop ⟨Nat.le_of_ble_eq_true rfl, Nat.le_of_ble_eq_true rfl⟩ ⟨rfl, rfl⟩ ⟨Nat.zero_le _, Nat.zero_le _⟩ 0 rfl rfl rfl rfl (Nat.le_of_ble_eq_true rfl) dX7_mend_46 ?_
          refine kw_istore_n (lo' := [(0, .ref h0), (1, .int p1), (2, .int b10)]) X dX7_mend_49 rfl (by decide) [1, 2, 0] rfl ?_
          refine kw_aload_n X dX7_mend_50 rfl 0 rfl ?_
          refine kw_iload_n X dX7_mend_51 rfl 2 rfl ?_
          obtain ⟨b11, hx11, hF⟩ := ob1_ex hF
          refine kw_ap X (r := .int b11) (As := [.int b10]) (st := []) (c_X7_leastInShop l D cI cC cR h0 h1 h2 h3 h4 p m8 asd tx b9 len at_ letter one two number b10 Z b11 hx11) vl_X7_109 yv_X7_leastInShop ⟨Nat.le_of_ble_eq_true rfl, Nat.le_of_ble_eq_true rfl⟩ ⟨rfl, rfl⟩ ⟨Nat.zero_le _, Nat.zero_le _⟩ 0 rfl rfl rfl rfl (Nat.le_of_ble_eq_true rfl) dX7_mend_52 ?_
          refine kw_istore_n (lo' := [(0, .ref h0), (1, .int p1), (2, .int b10), (3, .int b11)]) X dX7_mend_55 rfl (by decide) [1, 2, 3, 0] rfl ?_
          refine kw_iload_n X dX7_mend_56 rfl 2 rfl ?_
          refine kw_iload_n X dX7_mend_57 rfl 3 rfl ?_
          obtain ⟨x13, hx14, hF⟩ := pl1_ex hF
          have J : KW Γ 0 0 (wX7 cI h0 h1 h2 h3 h4 p m8 asd tx b9 len at_ letter one two number) [(0, .ref h0), (1, .int p1), (2, .int b10), (3, .int b11)] 66 [.int x13] := by
            refine kw_istore (lo' := [(0, .ref h0), (1, .int p1), (2, .int b10), (3, .int b11), (4, .int x13)]) X dX7_mend_66 (by decide) [1, 2, 3, 4, 0] rfl ?_
            refine kw_aload_n X dX7_mend_68 rfl 0 rfl ?_
            refine kw_get X inX7 0 rfl rfl 0 (by decide) rfl gw_698 rfl dX7_mend_69 ?_
            refine kw_bipush X dX7_mend_72 cb_121 ?_
            refine kw_iload_n X dX7_mend_74 rfl 2 rfl ?_
            refine kw_iadd X dX7_mend_75 ?_
            obtain ⟨a15, hx, hF⟩ := ob1_ex hF
            obtain ⟨hin, hx⟩ := aget_ex hx
            refine kw_iald X 1 0 rfl rfl hin hx dX7_mend_76 ?_
            refine kw_iconst X dX7_mend_77 ci_4 ?_
            refine kw_idiv X dX7_mend_78 (by decide) ?_
            refine kw_istore (lo' := [(0, .ref h0), (1, .int p1), (2, .int b10), (3, .int b11), (4, .int x13), (5, .int (a15 / 4))]) X dX7_mend_79 (by decide) [1, 2, 3, 4, 5, 0] rfl ?_
            refine kw_aload_n X dX7_mend_81 rfl 0 rfl ?_
            refine kw_iload_n X dX7_mend_82 rfl 2 rfl ?_
            refine kw_iload_n X dX7_mend_83 rfl 3 rfl ?_
            refine kw_iadd X dX7_mend_84 ?_
            refine kw_iload X dX7_mend_85 4 rfl ?_
            refine kw_isub X dX7_mend_87 ?_
            refine kw_iconst X dX7_mend_88 ci_4 ?_
            refine kw_iconst X dX7_mend_89 ci_0 ?_
            obtain ⟨m16, hx16, hF⟩ := ob1_ex hF
            refine kw_aev X (As := [.int ((b10 + b11) - x13), .int 4, .int 0]) (st := []) E (c_X7_goes l D cI cC cR h0 h1 h2 h3 h4 p m8 asd tx b9 len at_ letter one two number ((b10 + b11) - x13) 4 0 m16 hx16) vl_X7_57 yv_X7_goes ⟨Nat.le_of_ble_eq_true rfl, Nat.le_of_ble_eq_true rfl⟩ ⟨rfl, rfl⟩ ⟨Nat.zero_le _, Nat.zero_le _⟩ 0 rfl rfl rfl rfl (Nat.le_of_ble_eq_true rfl) dX7_mend_90 ?_
            refine kw_aload_n X dX7_mend_93 rfl 0 rfl ?_
            refine kw_iload X dX7_mend_94 4 rfl ?_
            refine kw_iconst X dX7_mend_96 ci_0 ?_
            refine kw_iload_n X dX7_mend_97 rfl 1 rfl ?_
            obtain ⟨m17, hx17, hF⟩ := ob1_ex hF
            refine kw_aev X (As := [.int x13, .int 0, .int p1]) (st := []) E (c_X7_goes l D cI cC cR h0 h1 h2 h3 h4 m16 m8 asd tx b9 len at_ letter one two number x13 0 p1 m17 hx17) vl_X7_57 yv_X7_goes ⟨Nat.le_of_ble_eq_true rfl, Nat.le_of_ble_eq_true rfl⟩ ⟨rfl, rfl⟩ ⟨Nat.zero_le _, Nat.zero_le _⟩ 0 rfl rfl rfl rfl (Nat.le_of_ble_eq_true rfl) dX7_mend_98 ?_
            refine kw_aload_n X dX7_mend_101 rfl 0 rfl ?_
            refine kw_get X inX7 0 rfl rfl 0 (by decide) rfl gw_698 rfl dX7_mend_102 ?_
            refine kw_bipush X dX7_mend_105 cb_121 ?_
            refine kw_iload X dX7_mend_107 4 rfl ?_
            refine kw_iadd X dX7_mend_109 ?_
            refine kw_iload X dX7_mend_110 5 rfl ?_
            obtain ⟨m18, hx, hF⟩ := ob1_ex hF
            obtain ⟨hin, hx⟩ := aset_ex hx
            refine kw_iast X E 1 0 rfl rfl hin (ws' := wX7 cI h0 h1 h2 h3 h4 m18 m8 asd tx b9 len at_ letter one two number) (by rw [hx]; rfl) dX7_mend_112 ?_
            refine kw_aload_n X dX7_mend_113 rfl 0 rfl ?_
            refine kw_iconst X dX7_mend_114 ci_3 ?_
            obtain ⟨m19, hx19, hF⟩ := ob1_ex hF
            refine kw_aev X (As := [.int 3]) (st := []) E (c_X7_spends l D cI cC cR h0 h1 h2 h3 h4 m18 m8 asd tx b9 len at_ letter one two number 3 m19 hx19) vl_X7_61 yv_X7_spends ⟨Nat.le_of_ble_eq_true rfl, Nat.le_of_ble_eq_true rfl⟩ ⟨rfl, rfl⟩ ⟨Nat.zero_le _, Nat.zero_le _⟩ 0 rfl rfl rfl rfl (Nat.le_of_ble_eq_true rfl) dX7_mend_115 ?_
            refine kw_iload X dX7_mend_118 4 rfl ?_
            obtain ⟨rfl, rfl, rfl, rfl⟩ := si4 hF
            exact hret _ _ (vp_nar_int _) dX7_mend_120
          replace hF := hx14
          refine kw_icmp_ge X 65 dX7_mend_58 (by decide) (fun q12 => ?_) (fun q12 => ?_)
          · replace hF := (if_neg q12).symm.trans hF
            refine kw_iload_n X dX7_mend_65 rfl 3 rfl ?_
            obtain rfl := ti1 hF
            exact J
          · replace hF := (if_pos q12).symm.trans hF
            refine kw_iload_n X dX7_mend_61 rfl 2 rfl ?_
            refine kw_goto X 66 dX7_mend_62 (by decide) ?_
            obtain rfl := ti1 hF
            exact J
        · replace hF := (if_neg q7).symm.trans hF
          refine kw_bipush X dX7_mend_37 cb_m3 ?_
          obtain ⟨rfl, rfl, rfl, rfl⟩ := si4 hF
          exact hret _ _ (vp_nar_int _) dX7_mend_39
      · replace hF := (if_pos q5).symm.trans hF
        refine kw_bipush X dX7_mend_26 cb_m2 ?_
        obtain ⟨rfl, rfl, rfl, rfl⟩ := si4 hF
        exact hret _ _ (vp_nar_int _) dX7_mend_28
  · replace hF := (if_pos q1).symm.trans hF
    refine kw_iconst X dX7_mend_7 ci_m1 ?_
    obtain ⟨rfl, rfl, rfl, rfl⟩ := si4 hF
    exact hret _ _ (vp_nar_int _) dX7_mend_8
-- X7_levels
def f_X7_levels_L16 (Z : Nat) (w240 : Nat → Int32) : Nat → Int32 → Int32 → Int32 → Option (Int32 × Int32)
  | 0, _, _, _ => none
  | F + 1, v3_331, v4_332, v5_333 => (if v5_333 < 8 then (ob1 (f_X7_manyAt Z w240 0 v5_333) (fun (b335 : Int32) => (ob1 (f_X7_manyAt Z w240 0 v3_331) (fun (b336 : Int32) => (pl1 (if b336 < b335 then v5_333 else v3_331) (fun (x338 : Int32) => (ob1 (f_X7_roomOf Z w240 v5_333) (fun (b340 : Int32) => (ob1 (if 0 < b340 then (if v4_332 < 0 then (some 1) else (ob1 (f_X7_manyAt Z w240 0 v5_333) (fun (b354 : Int32) => (ob1 (f_X7_manyAt Z w240 0 v4_332) (fun (b355 : Int32) => (if b354 < b355 then (some 1) else (some 0))))))) else (some 0)) (fun (x348 : Int32) => (pl1 (if x348 = 0 then v4_332 else v5_333) (fun (x351 : Int32) => (f_X7_levels_L16 Z w240 F x338 x351 (v5_333 + 1)))))))))))))) else (some (v3_331, v4_332)))
def f_X7_levels_L4 (Z : Nat) : Nat → Int32 → Int32 → (Nat → Int32) → Option (Int32 × (Nat → Int32))
  | 0, _, _, _ => none
  | F + 1, v1_238, v2_239, w240 => (if v2_239 = 0 then (some (v1_238, w240)) else (ob2 (f_X7_levels_L16 Z w240 Z 0 (-1) 0) (fun (e306 : Int32) (e307 : Int32) => (ob1 (if e307 < 0 then (some 0) else (ob1 (f_X7_manyAt Z w240 0 e306) (fun (b326 : Int32) => (ob1 (f_X7_manyAt Z w240 0 e307) (fun (b327 : Int32) => (if b326 < (b327 + 2) then (some 0) else (ob1 (f_X7_bestOf Z w240 e306) (fun (b329 : Int32) => (if b329 < 0 then (some 0) else (some 1)))))))))) (fun (x315 : Int32) => (ob2 (if x315 = 0 then (some (v1_238, w240)) else (ob1 (f_X7_bestOf Z w240 e306) (fun (b324 : Int32) => (ob1 (f_X7_goes w240 b324 0 e307) (fun (m325 : Nat → Int32) => (some ((v1_238 + 1), m325))))))) (fun (v1_321 : Int32) (w322 : Nat → Int32) => (f_X7_levels_L4 Z F v1_321 x315 w322))))))))
def f_X7_levels (Z : Nat) (p : Nat → Int32) : Option (Int32 × (Nat → Int32)) :=
  (ob2 (f_X7_levels_L4 Z Z 0 1 p) (fun (e236 : Int32) (w237 : Nat → Int32) => (some (e236, w237))))
abbrev rm_X7_levels : Room := { frames := 3, cells := 0, slots := 0, locals := 68 }
set_option maxHeartbeats 4000000 in
set_option maxRecDepth 100000 in
theorem c_X7_levels (l : Launch) (D : va_G) (cI cC cR : ClassId) (h0 h1 h2 h3 h4 : Nat) (p : Nat → Int32) (sv : Nat → Int32) (asd : Nat → Int32) (tx : Nat → Int32) (states : Int32) (len : Int32) (at_ : Int32) (letter : Int32) (one : Int32) (two : Int32) (number : Int32) (Z : Nat) (r : Int32) (p' : Nat → Int32) (hF : f_X7_levels Z p = some (r, p')) : MEq l yX7_levels cX7_levels 7 (some .int) rm_X7_levels D (TY cI cC cR) [.ref h0] (wX7 cI h0 h1 h2 h3 h4 p sv asd tx states len at_ letter one two number) (wX7 cI h0 h1 h2 h3 h4 p' sv asd tx states len at_ letter one two number) (some (.int r)) := by
  refine me_e pn_X7 (Nat.le_of_ble_eq_true rfl) rfl (fun Γ X E hret => ?_)
  unfold f_X7_levels at hF
  refine kw_iconst X dX7_levels_0 ci_0 ?_
  refine kw_istore_n (lo' := [(0, .ref h0), (1, .int 0)]) X dX7_levels_1 rfl (by decide) [1, 0] rfl ?_
  refine kw_iconst X dX7_levels_2 ci_1 ?_
  refine kw_istore_n (lo' := [(0, .ref h0), (1, .int 0), (2, .int 1)]) X dX7_levels_3 rfl (by decide) [1, 2, 0] rfl ?_
  obtain ⟨e236, w237, hx, hF⟩ := ob2_ex hF
  have J : KW Γ 0 0 (wX7 cI h0 h1 h2 h3 h4 w237 sv asd tx states len at_ letter one two number) [(1, .int e236)] 163 [] := by
    refine kw_iload_n X dX7_levels_163 rfl 0 rfl ?_
    obtain ⟨rfl, rfl⟩ := si2 hF
    exact hret _ _ (vp_nar_int _) dX7_levels_164
  have hL4 : ∀ (F : Nat) (v1_238 : Int32) (v2_239 : Int32) (w240 : Nat → Int32), f_X7_levels_L4 Z F v1_238 v2_239 w240 = some (e236, w237) → KW Γ 0 0 (wX7 cI h0 h1 h2 h3 h4 w240 sv asd tx states len at_ letter one two number) [(0, .ref h0), (1, .int v1_238), (2, .int v2_239)] 4 [] := by
    intro F
    induction F with
    | zero => intro v1_238 v2_239 w240 hF; exact none_some hF
    | succ F ih4 =>
      intro v1_238 v2_239 w240 hF
      rw [f_X7_levels_L4] at hF
      refine kw_iload_n X dX7_levels_4 rfl 2 rfl ?_
      refine kw_if_eq X 163 dX7_levels_5 (by decide) (fun q241 => ?_) (fun q241 => ?_)
      · replace hF := (if_pos q241).symm.trans hF
        refine kw_loc (lo' := [(1, .int v1_238)]) [1] rfl ?_
        obtain ⟨rfl, rfl⟩ := si2 hF
        exact J
      · replace hF := (if_neg q241).symm.trans hF
        refine kw_iconst X dX7_levels_8 ci_0 ?_
        refine kw_istore_n (lo' := [(0, .ref h0), (1, .int v1_238), (2, .int v2_239), (3, .int 0)]) X dX7_levels_9 rfl (by decide) [1, 2, 3, 0] rfl ?_
        refine kw_iconst X dX7_levels_10 ci_m1 ?_
        refine kw_istore (lo' := [(0, .ref h0), (1, .int v1_238), (2, .int v2_239), (3, .int 0), (4, .int (-1))]) X dX7_levels_11 (by decide) [1, 2, 3, 4, 0] rfl ?_
        refine kw_iconst X dX7_levels_13 ci_0 ?_
        refine kw_istore (lo' := [(0, .ref h0), (1, .int v1_238), (2, .int v2_239), (3, .int 0), (4, .int (-1)), (5, .int 0)]) X dX7_levels_14 (by decide) [1, 2, 3, 4, 5, 0] rfl ?_
        refine kw_loc (lo' := [(0, .ref h0), (1, .int v1_238), (3, .int 0), (4, .int (-1)), (5, .int 0)]) [0, 1, 3, 4, 5] rfl ?_
        obtain ⟨e306, e307, hx, hF⟩ := ob2_ex hF
        have J : KW Γ 0 0 (wX7 cI h0 h1 h2 h3 h4 w240 sv asd tx states len at_ letter one two number) [(0, .ref h0), (1, .int v1_238), (3, .int e306), (4, .int e307)] 104 [] := by
          refine kw_iload X dX7_levels_104 3 rfl ?_
          obtain ⟨x315, hx316, hF⟩ := ob1_ex hF
          have J : KW Γ 0 0 (wX7 cI h0 h1 h2 h3 h4 w240 sv asd tx states len at_ letter one two number) [(0, .ref h0), (1, .int v1_238), (3, .int e306), (4, .int e307)] 140 [.int x315] := by
            refine kw_istore_n (lo' := [(0, .ref h0), (1, .int v1_238), (2, .int x315), (3, .int e306), (4, .int e307)]) X dX7_levels_140 rfl (by decide) [1, 2, 0, 3, 4] rfl ?_
            refine kw_iload_n X dX7_levels_141 rfl 2 rfl ?_
            obtain ⟨v1_321, w322, hx323, hF⟩ := ob2_ex hF
            have J : KW Γ 0 0 (wX7 cI h0 h1 h2 h3 h4 w322 sv asd tx states len at_ letter one two number) [(0, .ref h0), (1, .int v1_321), (2, .int x315)] 160 [] := by
              refine kw_goto X 4 dX7_levels_160 (by decide) ?_
              exact ih4 _ _ _ hF
            replace hF := hx323
            refine kw_if_eq X 160 dX7_levels_142 (by decide) (fun q317 => ?_) (fun q317 => ?_)
            · replace hF := (if_pos q317).symm.trans hF
              refine kw_loc (lo' := [(0, .ref h0), (1, .int v1_238), (2, .int x315)]) [0, 1, 2] rfl ?_
              obtain ⟨rfl, rfl⟩ := si2 hF
              exact J
            · replace hF := (if_neg q317).symm.trans hF
              refine kw_aload_n X dX7_levels_145 rfl 0 rfl ?_
              refine kw_aload_n X dX7_levels_146 rfl 0 rfl ?_
              refine kw_iload_n X dX7_levels_147 rfl 3 rfl ?_
              obtain ⟨b324, hx324, hF⟩ := ob1_ex hF
              refine kw_ap X (r := .int b324) (As := [.int e306]) (st := [.ref h0]) (c_X7_bestOf l D cI cC cR h0 h1 h2 h3 h4 w240 sv asd tx states len at_ letter one two number e306 Z b324 hx324) vl_X7_71 yv_X7_bestOf ⟨Nat.le_of_ble_eq_true rfl, Nat.le_of_ble_eq_true rfl⟩ ⟨rfl, rfl⟩ ⟨Nat.zero_le _, Nat.zero_le _⟩ 0 rfl rfl rfl rfl (Nat.le_of_ble_eq_true rfl) dX7_levels_148 ?_
              refine kw_iconst X dX7_levels_151 ci_0 ?_
              refine kw_iload X dX7_levels_152 4 rfl ?_
              obtain ⟨m325, hx325, hF⟩ := ob1_ex hF
              refine kw_aev X (As := [.int b324, .int 0, .int e307]) (st := []) E (c_X7_goes l D cI cC cR h0 h1 h2 h3 h4 w240 sv asd tx states len at_ letter one two number b324 0 e307 m325 hx325) vl_X7_57 yv_X7_goes ⟨Nat.le_of_ble_eq_true rfl, Nat.le_of_ble_eq_true rfl⟩ ⟨rfl, rfl⟩ ⟨Nat.zero_le _, Nat.zero_le _⟩ 0 rfl rfl rfl rfl (Nat.le_of_ble_eq_true rfl) dX7_levels_154 ?_
              refine kw_iinc (lo' := [(0, .ref h0), (1, .int (v1_238 + 1)), (2, .int x315), (3, .int e306), (4, .int e307)]) X dX7_levels_157 1 rfl (congrArg (fun w => v1_238 + w) ci_1) (by decide) [1, 0, 2, 3, 4] rfl ?_
              refine kw_loc (lo' := [(0, .ref h0), (1, .int (v1_238 + 1)), (2, .int x315)]) [0, 1, 2] rfl ?_
              obtain ⟨rfl, rfl⟩ := si2 hF
              exact J
          replace hF := hx316
          refine kw_if_lt X 139 dX7_levels_106 (by decide) (fun q308 => ?_) (fun q308 => ?_)
          · replace hF := (if_pos q308).symm.trans hF
            refine kw_iconst X dX7_levels_139 ci_0 ?_
            obtain rfl := si1 hF
            exact J
          · replace hF := (if_neg q308).symm.trans hF
            refine kw_aload_n X dX7_levels_109 rfl 0 rfl ?_
            refine kw_iconst X dX7_levels_110 ci_0 ?_
            refine kw_iload_n X dX7_levels_111 rfl 2 rfl ?_
            obtain ⟨b326, hx326, hF⟩ := ob1_ex hF
            refine kw_ap X (r := .int b326) (As := [.int 0, .int e306]) (st := []) (c_X7_manyAt l D cI cC cR h0 h1 h2 h3 h4 w240 sv asd tx states len at_ letter one two number 0 e306 Z b326 hx326) vl_X7_37 yv_X7_manyAt ⟨Nat.le_of_ble_eq_true rfl, Nat.le_of_ble_eq_true rfl⟩ ⟨rfl, rfl⟩ ⟨Nat.zero_le _, Nat.zero_le _⟩ 0 rfl rfl rfl rfl (Nat.le_of_ble_eq_true rfl) dX7_levels_112 ?_
            refine kw_aload_n X dX7_levels_115 rfl 0 rfl ?_
            refine kw_iconst X dX7_levels_116 ci_0 ?_
            refine kw_iload X dX7_levels_117 3 rfl ?_
            obtain ⟨b327, hx327, hF⟩ := ob1_ex hF
            refine kw_ap X (r := .int b327) (As := [.int 0, .int e307]) (st := [.int b326]) (c_X7_manyAt l D cI cC cR h0 h1 h2 h3 h4 w240 sv asd tx states len at_ letter one two number 0 e307 Z b327 hx327) vl_X7_37 yv_X7_manyAt ⟨Nat.le_of_ble_eq_true rfl, Nat.le_of_ble_eq_true rfl⟩ ⟨rfl, rfl⟩ ⟨Nat.zero_le _, Nat.zero_le _⟩ 0 rfl rfl rfl rfl (Nat.le_of_ble_eq_true rfl) dX7_levels_119 ?_
            refine kw_iconst X dX7_levels_122 ci_2 ?_
            refine kw_iadd X dX7_levels_123 ?_
            refine kw_icmp_lt X 139 dX7_levels_124 (by decide) (fun q328 => ?_) (fun q328 => ?_)
            · replace hF := (if_pos q328).symm.trans hF
              refine kw_iconst X dX7_levels_139 ci_0 ?_
              obtain rfl := si1 hF
              exact J
            · replace hF := (if_neg q328).symm.trans hF
              refine kw_aload_n X dX7_levels_127 rfl 0 rfl ?_
              refine kw_iload_n X dX7_levels_128 rfl 2 rfl ?_
              obtain ⟨b329, hx329, hF⟩ := ob1_ex hF
              refine kw_ap X (r := .int b329) (As := [.int e306]) (st := []) (c_X7_bestOf l D cI cC cR h0 h1 h2 h3 h4 w240 sv asd tx states len at_ letter one two number e306 Z b329 hx329) vl_X7_71 yv_X7_bestOf ⟨Nat.le_of_ble_eq_true rfl, Nat.le_of_ble_eq_true rfl⟩ ⟨rfl, rfl⟩ ⟨Nat.zero_le _, Nat.zero_le _⟩ 0 rfl rfl rfl rfl (Nat.le_of_ble_eq_true rfl) dX7_levels_129 ?_
              refine kw_if_lt X 139 dX7_levels_132 (by decide) (fun q330 => ?_) (fun q330 => ?_)
              · replace hF := (if_pos q330).symm.trans hF
                refine kw_iconst X dX7_levels_139 ci_0 ?_
                obtain rfl := si1 hF
                exact J
              · replace hF := (if_neg q330).symm.trans hF
                refine kw_iconst X dX7_levels_135 ci_1 ?_
                refine kw_goto X 140 dX7_levels_136 (by decide) ?_
                obtain rfl := si1 hF
                exact J
        have hL16 : ∀ (F : Nat) (v3_331 : Int32) (v4_332 : Int32) (v5_333 : Int32), f_X7_levels_L16 Z w240 F v3_331 v4_332 v5_333 = some (e306, e307) → KW Γ 0 0 (wX7 cI h0 h1 h2 h3 h4 w240 sv asd tx states len at_ letter one two number) [(0, .ref h0), (1, .int v1_238), (3, .int v3_331), (4, .int v4_332), (5, .int v5_333)] 16 [] := by
          intro F
          induction F with
          | zero => intro v3_331 v4_332 v5_333 hF; exact none_some hF
          | succ F ih16 =>
            intro v3_331 v4_332 v5_333 hF
            rw [f_X7_levels_L16] at hF
            refine kw_iload X dX7_levels_16 4 rfl ?_
            refine kw_bipush X dX7_levels_18 cb_8 ?_
            refine kw_icmp_ge X 104 dX7_levels_20 (by decide) (fun q334 => ?_) (fun q334 => ?_)
            · replace hF := (if_neg q334).symm.trans hF
              refine kw_loc (lo' := [(0, .ref h0), (1, .int v1_238), (3, .int v3_331), (4, .int v4_332)]) [0, 1, 2, 3] rfl ?_
              obtain ⟨rfl, rfl⟩ := si2 hF
              exact J
            · replace hF := (if_pos q334).symm.trans hF
              refine kw_aload_n X dX7_levels_23 rfl 0 rfl ?_
              refine kw_iconst X dX7_levels_24 ci_0 ?_
              refine kw_iload X dX7_levels_25 4 rfl ?_
              obtain ⟨b335, hx335, hF⟩ := ob1_ex hF
              refine kw_ap X (r := .int b335) (As := [.int 0, .int v5_333]) (st := []) (c_X7_manyAt l D cI cC cR h0 h1 h2 h3 h4 w240 sv asd tx states len at_ letter one two number 0 v5_333 Z b335 hx335) vl_X7_37 yv_X7_manyAt ⟨Nat.le_of_ble_eq_true rfl, Nat.le_of_ble_eq_true rfl⟩ ⟨rfl, rfl⟩ ⟨Nat.zero_le _, Nat.zero_le _⟩ 0 rfl rfl rfl rfl (Nat.le_of_ble_eq_true rfl) dX7_levels_27 ?_
              refine kw_aload_n X dX7_levels_30 rfl 0 rfl ?_
              refine kw_iconst X dX7_levels_31 ci_0 ?_
              refine kw_iload_n X dX7_levels_32 rfl 2 rfl ?_
              obtain ⟨b336, hx336, hF⟩ := ob1_ex hF
              refine kw_ap X (r := .int b336) (As := [.int 0, .int v3_331]) (st := [.int b335]) (c_X7_manyAt l D cI cC cR h0 h1 h2 h3 h4 w240 sv asd tx states len at_ letter one two number 0 v3_331 Z b336 hx336) vl_X7_37 yv_X7_manyAt ⟨Nat.le_of_ble_eq_true rfl, Nat.le_of_ble_eq_true rfl⟩ ⟨rfl, rfl⟩ ⟨Nat.zero_le _, Nat.zero_le _⟩ 0 rfl rfl rfl rfl (Nat.le_of_ble_eq_true rfl) dX7_levels_33 ?_
              obtain ⟨x338, hx339, hF⟩ := pl1_ex hF
              have J : KW Γ 0 0 (wX7 cI h0 h1 h2 h3 h4 w240 sv asd tx states len at_ letter one two number) [(0, .ref h0), (1, .int v1_238), (4, .int v4_332), (5, .int v5_333)] 45 [.int x338] := by
                refine kw_istore_n (lo' := [(0, .ref h0), (1, .int v1_238), (3, .int x338), (4, .int v4_332), (5, .int v5_333)]) X dX7_levels_45 rfl (by decide) [1, 2, 0, 3, 4] rfl ?_
                refine kw_aload_n X dX7_levels_46 rfl 0 rfl ?_
                refine kw_iload X dX7_levels_47 4 rfl ?_
                obtain ⟨b340, hx340, hF⟩ := ob1_ex hF
                refine kw_ap X (r := .int b340) (As := [.int v5_333]) (st := []) (c_X7_roomOf l D cI cC cR h0 h1 h2 h3 h4 w240 sv asd tx states len at_ letter one two number v5_333 Z b340 hx340) vl_X7_51 yv_X7_roomOf ⟨Nat.le_of_ble_eq_true rfl, Nat.le_of_ble_eq_true rfl⟩ ⟨rfl, rfl⟩ ⟨Nat.zero_le _, Nat.zero_le _⟩ 0 rfl rfl rfl rfl (Nat.le_of_ble_eq_true rfl) dX7_levels_49 ?_
                obtain ⟨x348, hx349, hF⟩ := ob1_ex hF
                have J : KW Γ 0 0 (wX7 cI h0 h1 h2 h3 h4 w240 sv asd tx states len at_ letter one two number) [(0, .ref h0), (1, .int v1_238), (3, .int x338), (4, .int v4_332), (5, .int v5_333)] 82 [.int x348] := by
                  refine kw_istore (lo' := [(0, .ref h0), (1, .int v1_238), (3, .int x338), (4, .int v4_332), (5, .int v5_333), (6, .int x348)]) X dX7_levels_82 (by decide) [1, 2, 3, 4, 5, 0] rfl ?_
                  refine kw_iload X dX7_levels_84 5 rfl ?_
                  obtain ⟨x351, hx352, hF⟩ := pl1_ex hF
                  have J : KW Γ 0 0 (wX7 cI h0 h1 h2 h3 h4 w240 sv asd tx states len at_ letter one two number) [(0, .ref h0), (1, .int v1_238), (3, .int x338), (5, .int v5_333)] 96 [.int x351] := by
                    refine kw_istore (lo' := [(0, .ref h0), (1, .int v1_238), (3, .int x338), (4, .int x351), (5, .int v5_333)]) X dX7_levels_96 (by decide) [1, 2, 3, 0, 4] rfl ?_
                    refine kw_iinc (lo' := [(0, .ref h0), (1, .int v1_238), (3, .int x338), (4, .int x351), (5, .int (v5_333 + 1))]) X dX7_levels_98 4 rfl (congrArg (fun w => v5_333 + w) ci_1) (by decide) [1, 2, 3, 4, 0] rfl ?_
                    refine kw_goto X 16 dX7_levels_101 (by decide) ?_
                    exact ih16 _ _ _ hF
                  replace hF := hx352
                  refine kw_if_eq X 94 dX7_levels_86 (by decide) (fun q350 => ?_) (fun q350 => ?_)
                  · replace hF := (if_pos q350).symm.trans hF
                    refine kw_iload X dX7_levels_94 3 rfl ?_
                    refine kw_loc (lo' := [(0, .ref h0), (1, .int v1_238), (3, .int x338), (5, .int v5_333)]) [0, 1, 2, 4] rfl ?_
                    obtain rfl := ti1 hF
                    exact J
                  · replace hF := (if_neg q350).symm.trans hF
                    refine kw_iload X dX7_levels_89 4 rfl ?_
                    refine kw_goto X 96 dX7_levels_91 (by decide) ?_
                    refine kw_loc (lo' := [(0, .ref h0), (1, .int v1_238), (3, .int x338), (5, .int v5_333)]) [0, 1, 2, 4] rfl ?_
                    obtain rfl := ti1 hF
                    exact J
                replace hF := hx349
                refine kw_if_le X 81 dX7_levels_52 (by decide) (fun q341 => ?_) (fun q341 => ?_)
                · replace hF := (if_neg q341).symm.trans hF
                  refine kw_iconst X dX7_levels_81 ci_0 ?_
                  obtain rfl := si1 hF
                  exact J
                · replace hF := (if_pos q341).symm.trans hF
                  refine kw_iload X dX7_levels_55 3 rfl ?_
                  refine kw_if_lt X 77 dX7_levels_57 (by decide) (fun q353 => ?_) (fun q353 => ?_)
                  · replace hF := (if_pos q353).symm.trans hF
                    refine kw_iconst X dX7_levels_77 ci_1 ?_
                    refine kw_goto X 82 dX7_levels_78 (by decide) ?_
                    obtain rfl := si1 hF
                    exact J
                  · replace hF := (if_neg q353).symm.trans hF
                    refine kw_aload_n X dX7_levels_60 rfl 0 rfl ?_
                    refine kw_iconst X dX7_levels_61 ci_0 ?_
                    refine kw_iload X dX7_levels_62 4 rfl ?_
                    obtain ⟨b354, hx354, hF⟩ := ob1_ex hF
                    refine kw_ap X (r := .int b354) (As := [.int 0, .int v5_333]) (st := []) (c_X7_manyAt l D cI cC cR h0 h1 h2 h3 h4 w240 sv asd tx states len at_ letter one two number 0 v5_333 Z b354 hx354) vl_X7_37 yv_X7_manyAt ⟨Nat.le_of_ble_eq_true rfl, Nat.le_of_ble_eq_true rfl⟩ ⟨rfl, rfl⟩ ⟨Nat.zero_le _, Nat.zero_le _⟩ 0 rfl rfl rfl rfl (Nat.le_of_ble_eq_true rfl) dX7_levels_64 ?_
                    refine kw_aload_n X dX7_levels_67 rfl 0 rfl ?_
                    refine kw_iconst X dX7_levels_68 ci_0 ?_
                    refine kw_iload X dX7_levels_69 3 rfl ?_
                    obtain ⟨b355, hx355, hF⟩ := ob1_ex hF
                    refine kw_ap X (r := .int b355) (As := [.int 0, .int v4_332]) (st := [.int b354]) (c_X7_manyAt l D cI cC cR h0 h1 h2 h3 h4 w240 sv asd tx states len at_ letter one two number 0 v4_332 Z b355 hx355) vl_X7_37 yv_X7_manyAt ⟨Nat.le_of_ble_eq_true rfl, Nat.le_of_ble_eq_true rfl⟩ ⟨rfl, rfl⟩ ⟨Nat.zero_le _, Nat.zero_le _⟩ 0 rfl rfl rfl rfl (Nat.le_of_ble_eq_true rfl) dX7_levels_71 ?_
                    refine kw_icmp_ge X 81 dX7_levels_74 (by decide) (fun q356 => ?_) (fun q356 => ?_)
                    · replace hF := (if_neg q356).symm.trans hF
                      refine kw_iconst X dX7_levels_81 ci_0 ?_
                      obtain rfl := si1 hF
                      exact J
                    · replace hF := (if_pos q356).symm.trans hF
                      refine kw_iconst X dX7_levels_77 ci_1 ?_
                      refine kw_goto X 82 dX7_levels_78 (by decide) ?_
                      obtain rfl := si1 hF
                      exact J
              replace hF := hx339
              refine kw_icmp_le X 44 dX7_levels_36 (by decide) (fun q337 => ?_) (fun q337 => ?_)
              · replace hF := (if_neg q337).symm.trans hF
                refine kw_iload_n X dX7_levels_44 rfl 2 rfl ?_
                refine kw_loc (lo' := [(0, .ref h0), (1, .int v1_238), (4, .int v4_332), (5, .int v5_333)]) [0, 1, 3, 4] rfl ?_
                obtain rfl := ti1 hF
                exact J
              · replace hF := (if_pos q337).symm.trans hF
                refine kw_iload X dX7_levels_39 4 rfl ?_
                refine kw_goto X 45 dX7_levels_41 (by decide) ?_
                refine kw_loc (lo' := [(0, .ref h0), (1, .int v1_238), (4, .int v4_332), (5, .int v5_333)]) [0, 1, 3, 4] rfl ?_
                obtain rfl := ti1 hF
                exact J
        exact hL16 Z _ _ _ hx
  exact hL4 Z _ _ _ hx
-- X7_level
def f_X7_level (Z : Nat) (p : Nat → Int32) (sv : Nat → Int32) (states : Int32) : Option (Int32 × (Nat → Int32) × (Nat → Int32) × Int32) :=
  (ob2 (f_X7_save Z p sv states) (fun (m1 : Nat → Int32) (b2 : Int32) => (ob2 (f_X7_levels Z p) (fun (b3 : Int32) (m4 : Nat → Int32) => (some (b3, m4, m1, b2))))))
abbrev rm_X7_level : Room := { frames := 4, cells := 0, slots := 0, locals := 94 }
set_option maxHeartbeats 4000000 in
set_option maxRecDepth 100000 in
theorem c_X7_level (l : Launch) (D : va_G) (cI cC cR : ClassId) (h0 h1 h2 h3 h4 : Nat) (p : Nat → Int32) (sv : Nat → Int32) (asd : Nat → Int32) (tx : Nat → Int32) (states : Int32) (len : Int32) (at_ : Int32) (letter : Int32) (one : Int32) (two : Int32) (number : Int32) (Z : Nat) (r : Int32) (p' : Nat → Int32) (sv' : Nat → Int32) (states' : Int32) (hF : f_X7_level Z p sv states = some (r, p', sv', states')) : MEq l yX7_level cX7_level 1 (some .int) rm_X7_level D (TY cI cC cR) [.ref h0] (wX7 cI h0 h1 h2 h3 h4 p sv asd tx states len at_ letter one two number) (wX7 cI h0 h1 h2 h3 h4 p' sv' asd tx states' len at_ letter one two number) (some (.int r)) := by
  refine me_e pn_X7 (Nat.le_of_ble_eq_true rfl) rfl (fun Γ X E hret => ?_)
  unfold f_X7_level at hF
  refine kw_aload_n X dX7_level_0 rfl 0 rfl ?_
  obtain ⟨m1, b2, hx2, hF⟩ := ob2_ex hF
  refine kw_aev X (As := []) (st := []) E (c_X7_save l D cI cC cR h0 h1 h2 h3 h4 p sv asd tx states len at_ letter one two number Z m1 b2 hx2) vl_X7_54 yv_X7_save ⟨Nat.le_of_ble_eq_true rfl, Nat.le_of_ble_eq_true rfl⟩ ⟨rfl, rfl⟩ ⟨Nat.zero_le _, Nat.zero_le _⟩ 0 rfl rfl rfl rfl (Nat.le_of_ble_eq_true rfl) dX7_level_1 ?_
  refine kw_aload_n X dX7_level_4 rfl 0 rfl ?_
  obtain ⟨b3, m4, hx4, hF⟩ := ob2_ex hF
  refine kw_aei X (r := .int b3) (As := []) (st := []) E (c_X7_levels l D cI cC cR h0 h1 h2 h3 h4 p m1 asd tx b2 len at_ letter one two number Z b3 m4 hx4) vl_X7_112 yv_X7_levels ⟨Nat.le_of_ble_eq_true rfl, Nat.le_of_ble_eq_true rfl⟩ ⟨rfl, rfl⟩ ⟨Nat.zero_le _, Nat.zero_le _⟩ 0 rfl rfl rfl rfl (Nat.le_of_ble_eq_true rfl) dX7_level_5 ?_
  obtain ⟨rfl, rfl, rfl, rfl⟩ := si4 hF
  exact hret _ _ (vp_nar_int _) dX7_level_8
-- X7_take
def f_X7_take_L34 (p1 : Int32) : Nat → Int32 → (Nat → Int32) → Option ((Nat → Int32))
  | 0, _, _ => none
  | F + 1, v3_15, w16 => (if v3_15 < 328 then ob1 (aget 986 w16 v3_15) (fun a18 => ob1 (aset 986 w16 (((328 + (329 * p1)) + 1) + v3_15) a18) (fun m19 => (f_X7_take_L34 p1 F (v3_15 + 1) m19))) else (some (w16)))
def f_X7_take (Z : Nat) (p : Nat → Int32) (sv : Nat → Int32) (states : Int32) (p1 : Int32) : Option (Int32 × (Nat → Int32) × (Nat → Int32) × Int32) :=
  (if (f_X7_in p1 0 1) = 0 then (some ((-1), p, sv, states)) else (ob2 (f_X7_save Z p sv states) (fun (m2 : Nat → Int32) (b3 : Int32) => ob1 (aset 986 p (328 + (329 * p1)) 1) (fun m4 => (ob1 (f_X7_take_L34 p1 Z 0 m4) (fun (w13 : Nat → Int32) => ob1 (aget 986 w13 322) (fun a14 => (some (a14, w13, m2, b3)))))))))
abbrev rm_X7_take : Room := { frames := 1, cells := 0, slots := 0, locals := 22 }
set_option maxHeartbeats 4000000 in
set_option maxRecDepth 100000 in
theorem c_X7_take (l : Launch) (D : va_G) (cI cC cR : ClassId) (h0 h1 h2 h3 h4 : Nat) (p : Nat → Int32) (sv : Nat → Int32) (asd : Nat → Int32) (tx : Nat → Int32) (states : Int32) (len : Int32) (at_ : Int32) (letter : Int32) (one : Int32) (two : Int32) (number : Int32) (p1 : Int32) (Z : Nat) (r : Int32) (p' : Nat → Int32) (sv' : Nat → Int32) (states' : Int32) (hF : f_X7_take Z p sv states p1 = some (r, p', sv', states')) : MEq l yX7_take cX7_take 4 (some .int) rm_X7_take D (TY cI cC cR) [.ref h0, .int p1] (wX7 cI h0 h1 h2 h3 h4 p sv asd tx states len at_ letter one two number) (wX7 cI h0 h1 h2 h3 h4 p' sv' asd tx states' len at_ letter one two number) (some (.int r)) := by
  refine me_e pn_X7 (Nat.le_of_ble_eq_true rfl) rfl (fun Γ X E hret => ?_)
  unfold f_X7_take at hF
  refine kw_iload_n X dX7_take_0 rfl 1 rfl ?_
  refine kw_iconst X dX7_take_1 ci_0 ?_
  refine kw_iconst X dX7_take_2 ci_1 ?_
  refine kw_sp X (r := .int (f_X7_in p1 0 1)) (As := [.int p1, .int 0, .int 1]) (st := []) (c_X7_in l D cI cC cR  p1 0 1 (f_X7_in p1 0 1) rfl) vl_X7_22 yv_X7_in ⟨Nat.le_of_ble_eq_true rfl, Nat.le_of_ble_eq_true rfl⟩ ⟨rfl, rfl⟩ ⟨Nat.zero_le _, Nat.zero_le _⟩ [] rfl rfl rfl rfl (Nat.le_of_ble_eq_true rfl) dX7_take_3 ?_
  refine kw_if_ne X 11 dX7_take_6 (by decide) (fun q1 => ?_) (fun q1 => ?_)
  · replace hF := (if_neg q1).symm.trans hF
    refine kw_aload_n X dX7_take_11 rfl 0 rfl ?_
    obtain ⟨m2, b3, hx3, hF⟩ := ob2_ex hF
    refine kw_aev X (As := []) (st := []) E (c_X7_save l D cI cC cR h0 h1 h2 h3 h4 p sv asd tx states len at_ letter one two number Z m2 b3 hx3) vl_X7_54 yv_X7_save ⟨Nat.le_of_ble_eq_true rfl, Nat.le_of_ble_eq_true rfl⟩ ⟨rfl, rfl⟩ ⟨Nat.zero_le _, Nat.zero_le _⟩ 0 rfl rfl rfl rfl (Nat.le_of_ble_eq_true rfl) dX7_take_12 ?_
    refine kw_sipush X dX7_take_15 cs_328 ?_
    refine kw_sipush X dX7_take_18 cs_329 ?_
    refine kw_iload_n X dX7_take_21 rfl 1 rfl ?_
    refine kw_imul X dX7_take_22 ?_
    refine kw_iadd X dX7_take_23 ?_
    refine kw_istore_n (lo' := [(0, .ref h0), (1, .int p1), (2, .int (328 + (329 * p1)))]) X dX7_take_24 rfl (by decide) [1, 2, 0] rfl ?_
    refine kw_aload_n X dX7_take_25 rfl 0 rfl ?_
    refine kw_get X inX7 0 rfl rfl 0 (by decide) rfl gw_698 rfl dX7_take_26 ?_
    refine kw_iload_n X dX7_take_29 rfl 2 rfl ?_
    refine kw_iconst X dX7_take_30 ci_1 ?_
    obtain ⟨m4, hx, hF⟩ := ob1_ex hF
    obtain ⟨hin, hx⟩ := aset_ex hx
    refine kw_iast X E 1 0 rfl rfl hin (ws' := wX7 cI h0 h1 h2 h3 h4 m4 m2 asd tx b3 len at_ letter one two number) (by rw [hx]; rfl) dX7_take_31 ?_
    refine kw_iconst X dX7_take_32 ci_0 ?_
    refine kw_istore_n (lo' := [(0, .ref h0), (1, .int p1), (2, .int (328 + (329 * p1))), (3, .int 0)]) X dX7_take_33 rfl (by decide) [1, 2, 3, 0] rfl ?_
    refine kw_loc (lo' := [(0, .ref h0), (2, .int (328 + (329 * p1))), (3, .int 0)]) [0, 2, 3] rfl ?_
    obtain ⟨w13, hx, hF⟩ := ob1_ex hF
    have J : KW Γ 0 0 (wX7 cI h0 h1 h2 h3 h4 w13 m2 asd tx b3 len at_ letter one two number) [(0, .ref h0)] 63 [] := by
      refine kw_aload_n X dX7_take_63 rfl 0 rfl ?_
      refine kw_get X inX7 0 rfl rfl 0 (by decide) rfl gw_698 rfl dX7_take_64 ?_
      refine kw_sipush X dX7_take_67 cs_322 ?_
      obtain ⟨a14, hx, hF⟩ := ob1_ex hF
      obtain ⟨hin, hx⟩ := aget_ex hx
      refine kw_iald X 1 0 rfl rfl hin hx dX7_take_70 ?_
      obtain ⟨rfl, rfl, rfl, rfl⟩ := si4 hF
      exact hret _ _ (vp_nar_int _) dX7_take_71
    have hL34 : ∀ (F : Nat) (v3_15 : Int32) (w16 : Nat → Int32), f_X7_take_L34 p1 F v3_15 w16 = some (w13) → KW Γ 0 0 (wX7 cI h0 h1 h2 h3 h4 w16 m2 asd tx b3 len at_ letter one two number) [(0, .ref h0), (2, .int (328 + (329 * p1))), (3, .int v3_15)] 34 [] := by
      intro F
      induction F with
      | zero => intro v3_15 w16 hF; exact none_some hF
      | succ F ih34 =>
        intro v3_15 w16 hF
        rw [f_X7_take_L34] at hF
        refine kw_iload_n X dX7_take_34 rfl 2 rfl ?_
        refine kw_sipush X dX7_take_35 cs_328 ?_
        refine kw_icmp_ge X 63 dX7_take_38 (by decide) (fun q17 => ?_) (fun q17 => ?_)
        · replace hF := (if_neg q17).symm.trans hF
          refine kw_loc (lo' := [(0, .ref h0)]) [0] rfl ?_
          obtain rfl := si1 hF
          exact J
        · replace hF := (if_pos q17).symm.trans hF
          refine kw_aload_n X dX7_take_41 rfl 0 rfl ?_
          refine kw_get X inX7 0 rfl rfl 0 (by decide) rfl gw_698 rfl dX7_take_42 ?_
          refine kw_iload_n X dX7_take_45 rfl 1 rfl ?_
          refine kw_iconst X dX7_take_46 ci_1 ?_
          refine kw_iadd X dX7_take_47 ?_
          refine kw_iload_n X dX7_take_48 rfl 2 rfl ?_
          refine kw_iadd X dX7_take_49 ?_
          refine kw_aload_n X dX7_take_50 rfl 0 rfl ?_
          refine kw_get X inX7 0 rfl rfl 0 (by decide) rfl gw_698 rfl dX7_take_51 ?_
          refine kw_iload_n X dX7_take_54 rfl 2 rfl ?_
          obtain ⟨a18, hx, hF⟩ := ob1_ex hF
          obtain ⟨hin, hx⟩ := aget_ex hx
          refine kw_iald X 1 0 rfl rfl hin hx dX7_take_55 ?_
          obtain ⟨m19, hx, hF⟩ := ob1_ex hF
          obtain ⟨hin, hx⟩ := aset_ex hx
          refine kw_iast X E 1 0 rfl rfl hin (ws' := wX7 cI h0 h1 h2 h3 h4 m19 m2 asd tx b3 len at_ letter one two number) (by rw [hx]; rfl) dX7_take_56 ?_
          refine kw_iinc (lo' := [(0, .ref h0), (2, .int (328 + (329 * p1))), (3, .int (v3_15 + 1))]) X dX7_take_57 2 rfl (congrArg (fun w => v3_15 + w) ci_1) (by decide) [1, 2, 0] rfl ?_
          refine kw_goto X 34 dX7_take_60 (by decide) ?_
          exact ih34 _ _ hF
    exact hL34 Z _ _ hx
  · replace hF := (if_pos q1).symm.trans hF
    refine kw_iconst X dX7_take_9 ci_m1 ?_
    obtain ⟨rfl, rfl, rfl, rfl⟩ := si4 hF
    exact hret _ _ (vp_nar_int _) dX7_take_10
-- X7_restore
def f_X7_restore_L39 (p1 : Int32) : Nat → Int32 → (Nat → Int32) → Option ((Nat → Int32))
  | 0, _, _ => none
  | F + 1, v3_16, w17 => (if v3_16 < 328 then ob1 (aget 986 w17 (((328 + (329 * p1)) + 1) + v3_16)) (fun a19 => ob1 (aset 986 w17 v3_16 a19) (fun m20 => (f_X7_restore_L39 p1 F (v3_16 + 1) m20))) else (some (w17)))
def f_X7_restore (Z : Nat) (p : Nat → Int32) (sv : Nat → Int32) (states : Int32) (p1 : Int32) : Option (Int32 × (Nat → Int32) × (Nat → Int32) × Int32) :=
  (if (f_X7_in p1 0 1) = 0 then (some ((-1), p, sv, states)) else ob1 (aget 986 p (328 + (329 * p1))) (fun a2 => (if a2 = 0 then (some ((-2), p, sv, states)) else (ob2 (f_X7_save Z p sv states) (fun (m4 : Nat → Int32) (b5 : Int32) => (ob1 (f_X7_restore_L39 p1 Z 0 p) (fun (w14 : Nat → Int32) => ob1 (aget 986 w14 322) (fun a15 => (some (a15, w14, m4, b5))))))))))
abbrev rm_X7_restore : Room := { frames := 1, cells := 0, slots := 0, locals := 22 }
set_option maxHeartbeats 4000000 in
set_option maxRecDepth 100000 in
theorem c_X7_restore (l : Launch) (D : va_G) (cI cC cR : ClassId) (h0 h1 h2 h3 h4 : Nat) (p : Nat → Int32) (sv : Nat → Int32) (asd : Nat → Int32) (tx : Nat → Int32) (states : Int32) (len : Int32) (at_ : Int32) (letter : Int32) (one : Int32) (two : Int32) (number : Int32) (p1 : Int32) (Z : Nat) (r : Int32) (p' : Nat → Int32) (sv' : Nat → Int32) (states' : Int32) (hF : f_X7_restore Z p sv states p1 = some (r, p', sv', states')) : MEq l yX7_restore cX7_restore 4 (some .int) rm_X7_restore D (TY cI cC cR) [.ref h0, .int p1] (wX7 cI h0 h1 h2 h3 h4 p sv asd tx states len at_ letter one two number) (wX7 cI h0 h1 h2 h3 h4 p' sv' asd tx states' len at_ letter one two number) (some (.int r)) := by
  refine me_e pn_X7 (Nat.le_of_ble_eq_true rfl) rfl (fun Γ X E hret => ?_)
  unfold f_X7_restore at hF
  refine kw_iload_n X dX7_restore_0 rfl 1 rfl ?_
  refine kw_iconst X dX7_restore_1 ci_0 ?_
  refine kw_iconst X dX7_restore_2 ci_1 ?_
  refine kw_sp X (r := .int (f_X7_in p1 0 1)) (As := [.int p1, .int 0, .int 1]) (st := []) (c_X7_in l D cI cC cR  p1 0 1 (f_X7_in p1 0 1) rfl) vl_X7_22 yv_X7_in ⟨Nat.le_of_ble_eq_true rfl, Nat.le_of_ble_eq_true rfl⟩ ⟨rfl, rfl⟩ ⟨Nat.zero_le _, Nat.zero_le _⟩ [] rfl rfl rfl rfl (Nat.le_of_ble_eq_true rfl) dX7_restore_3 ?_
  refine kw_if_ne X 11 dX7_restore_6 (by decide) (fun q1 => ?_) (fun q1 => ?_)
  · replace hF := (if_neg q1).symm.trans hF
    refine kw_sipush X dX7_restore_11 cs_328 ?_
    refine kw_sipush X dX7_restore_14 cs_329 ?_
    refine kw_iload_n X dX7_restore_17 rfl 1 rfl ?_
    refine kw_imul X dX7_restore_18 ?_
    refine kw_iadd X dX7_restore_19 ?_
    refine kw_istore_n (lo' := [(0, .ref h0), (1, .int p1), (2, .int (328 + (329 * p1)))]) X dX7_restore_20 rfl (by decide) [1, 2, 0] rfl ?_
    refine kw_aload_n X dX7_restore_21 rfl 0 rfl ?_
    refine kw_get X inX7 0 rfl rfl 0 (by decide) rfl gw_698 rfl dX7_restore_22 ?_
    refine kw_iload_n X dX7_restore_25 rfl 2 rfl ?_
    obtain ⟨a2, hx, hF⟩ := ob1_ex hF
    obtain ⟨hin, hx⟩ := aget_ex hx
    refine kw_iald X 1 0 rfl rfl hin hx dX7_restore_26 ?_
    refine kw_if_ne X 33 dX7_restore_27 (by decide) (fun q3 => ?_) (fun q3 => ?_)
    · replace hF := (if_neg q3).symm.trans hF
      refine kw_aload_n X dX7_restore_33 rfl 0 rfl ?_
      obtain ⟨m4, b5, hx5, hF⟩ := ob2_ex hF
      refine kw_aev X (As := []) (st := []) E (c_X7_save l D cI cC cR h0 h1 h2 h3 h4 p sv asd tx states len at_ letter one two number Z m4 b5 hx5) vl_X7_54 yv_X7_save ⟨Nat.le_of_ble_eq_true rfl, Nat.le_of_ble_eq_true rfl⟩ ⟨rfl, rfl⟩ ⟨Nat.zero_le _, Nat.zero_le _⟩ 0 rfl rfl rfl rfl (Nat.le_of_ble_eq_true rfl) dX7_restore_34 ?_
      refine kw_iconst X dX7_restore_37 ci_0 ?_
      refine kw_istore_n (lo' := [(0, .ref h0), (1, .int p1), (2, .int (328 + (329 * p1))), (3, .int 0)]) X dX7_restore_38 rfl (by decide) [1, 2, 3, 0] rfl ?_
      refine kw_loc (lo' := [(0, .ref h0), (2, .int (328 + (329 * p1))), (3, .int 0)]) [0, 2, 3] rfl ?_
      obtain ⟨w14, hx, hF⟩ := ob1_ex hF
      have J : KW Γ 0 0 (wX7 cI h0 h1 h2 h3 h4 w14 m4 asd tx b5 len at_ letter one two number) [(0, .ref h0)] 68 [] := by
        refine kw_aload_n X dX7_restore_68 rfl 0 rfl ?_
        refine kw_get X inX7 0 rfl rfl 0 (by decide) rfl gw_698 rfl dX7_restore_69 ?_
        refine kw_sipush X dX7_restore_72 cs_322 ?_
        obtain ⟨a15, hx, hF⟩ := ob1_ex hF
        obtain ⟨hin, hx⟩ := aget_ex hx
        refine kw_iald X 1 0 rfl rfl hin hx dX7_restore_75 ?_
        obtain ⟨rfl, rfl, rfl, rfl⟩ := si4 hF
        exact hret _ _ (vp_nar_int _) dX7_restore_76
      have hL39 : ∀ (F : Nat) (v3_16 : Int32) (w17 : Nat → Int32), f_X7_restore_L39 p1 F v3_16 w17 = some (w14) → KW Γ 0 0 (wX7 cI h0 h1 h2 h3 h4 w17 m4 asd tx b5 len at_ letter one two number) [(0, .ref h0), (2, .int (328 + (329 * p1))), (3, .int v3_16)] 39 [] := by
        intro F
        induction F with
        | zero => intro v3_16 w17 hF; exact none_some hF
        | succ F ih39 =>
          intro v3_16 w17 hF
          rw [f_X7_restore_L39] at hF
          refine kw_iload_n X dX7_restore_39 rfl 2 rfl ?_
          refine kw_sipush X dX7_restore_40 cs_328 ?_
          refine kw_icmp_ge X 68 dX7_restore_43 (by decide) (fun q18 => ?_) (fun q18 => ?_)
          · replace hF := (if_neg q18).symm.trans hF
            refine kw_loc (lo' := [(0, .ref h0)]) [0] rfl ?_
            obtain rfl := si1 hF
            exact J
          · replace hF := (if_pos q18).symm.trans hF
            refine kw_aload_n X dX7_restore_46 rfl 0 rfl ?_
            refine kw_get X inX7 0 rfl rfl 0 (by decide) rfl gw_698 rfl dX7_restore_47 ?_
            refine kw_iload_n X dX7_restore_50 rfl 2 rfl ?_
            refine kw_aload_n X dX7_restore_51 rfl 0 rfl ?_
            refine kw_get X inX7 0 rfl rfl 0 (by decide) rfl gw_698 rfl dX7_restore_52 ?_
            refine kw_iload_n X dX7_restore_55 rfl 1 rfl ?_
            refine kw_iconst X dX7_restore_56 ci_1 ?_
            refine kw_iadd X dX7_restore_57 ?_
            refine kw_iload_n X dX7_restore_58 rfl 2 rfl ?_
            refine kw_iadd X dX7_restore_59 ?_
            obtain ⟨a19, hx, hF⟩ := ob1_ex hF
            obtain ⟨hin, hx⟩ := aget_ex hx
            refine kw_iald X 1 0 rfl rfl hin hx dX7_restore_60 ?_
            obtain ⟨m20, hx, hF⟩ := ob1_ex hF
            obtain ⟨hin, hx⟩ := aset_ex hx
            refine kw_iast X E 1 0 rfl rfl hin (ws' := wX7 cI h0 h1 h2 h3 h4 m20 m4 asd tx b5 len at_ letter one two number) (by rw [hx]; rfl) dX7_restore_61 ?_
            refine kw_iinc (lo' := [(0, .ref h0), (2, .int (328 + (329 * p1))), (3, .int (v3_16 + 1))]) X dX7_restore_62 2 rfl (congrArg (fun w => v3_16 + w) ci_1) (by decide) [1, 2, 0] rfl ?_
            refine kw_goto X 39 dX7_restore_65 (by decide) ?_
            exact ih39 _ _ hF
      exact hL39 Z _ _ hx
    · replace hF := (if_pos q3).symm.trans hF
      refine kw_bipush X dX7_restore_30 cb_m2 ?_
      obtain ⟨rfl, rfl, rfl, rfl⟩ := si4 hF
      exact hret _ _ (vp_nar_int _) dX7_restore_32
  · replace hF := (if_pos q1).symm.trans hF
    refine kw_iconst X dX7_restore_9 ci_m1 ?_
    obtain ⟨rfl, rfl, rfl, rfl⟩ := si4 hF
    exact hret _ _ (vp_nar_int _) dX7_restore_10
-- X7_undo
def f_X7_undo_L22 (sv : Nat → Int32) (states : Int32) : Nat → Int32 → (Nat → Int32) → Option ((Nat → Int32))
  | 0, _, _ => none
  | F + 1, v1_11, w12 => (if v1_11 < 986 then ob1 (aget 4930 sv ((986 * (states - 1)) + v1_11)) (fun a14 => ob1 (aset 986 w12 v1_11 a14) (fun m15 => (f_X7_undo_L22 sv states F (v1_11 + 1) m15))) else (some (w12)))
def f_X7_undo (Z : Nat) (p : Nat → Int32) (sv : Nat → Int32) (states : Int32) : Option (Int32 × (Nat → Int32) × Int32) :=
  (if states = 0 then (some ((-2), p, states)) else (ob1 (f_X7_undo_L22 sv states Z 0 p) (fun (w10 : Nat → Int32) => (some ((states - 1), w10, (states - 1))))))
abbrev rm_X7_undo : Room := { frames := 0, cells := 0, slots := 0, locals := 0 }
set_option maxHeartbeats 4000000 in
set_option maxRecDepth 100000 in
theorem c_X7_undo (l : Launch) (D : va_G) (cI cC cR : ClassId) (h0 h1 h2 h3 h4 : Nat) (p : Nat → Int32) (sv : Nat → Int32) (asd : Nat → Int32) (tx : Nat → Int32) (states : Int32) (len : Int32) (at_ : Int32) (letter : Int32) (one : Int32) (two : Int32) (number : Int32) (Z : Nat) (r : Int32) (p' : Nat → Int32) (states' : Int32) (hF : f_X7_undo Z p sv states = some (r, p', states')) : MEq l yX7_undo cX7_undo 2 (some .int) rm_X7_undo D (TY cI cC cR) [.ref h0] (wX7 cI h0 h1 h2 h3 h4 p sv asd tx states len at_ letter one two number) (wX7 cI h0 h1 h2 h3 h4 p' sv asd tx states' len at_ letter one two number) (some (.int r)) := by
  refine me_e pn_X7 (Nat.le_of_ble_eq_true rfl) rfl (fun Γ X E hret => ?_)
  unfold f_X7_undo at hF
  refine kw_aload_n X dX7_undo_0 rfl 0 rfl ?_
  refine kw_get X inX7 0 rfl rfl 3 (by decide) rfl gw_701 rfl dX7_undo_1 ?_
  refine kw_if_ne X 10 dX7_undo_4 (by decide) (fun q1 => ?_) (fun q1 => ?_)
  · replace hF := (if_neg q1).symm.trans hF
    refine kw_aload_n X dX7_undo_10 rfl 0 rfl ?_
    refine kw_dup X dX7_undo_11 rfl ?_
    refine kw_get X inX7 0 rfl rfl 3 (by decide) rfl gw_701 rfl dX7_undo_12 ?_
    refine kw_iconst X dX7_undo_15 ci_1 ?_
    refine kw_isub X dX7_undo_16 ?_
    refine kw_put X E inX7 tyX7 tyX7_ok nmX7 0 rfl rfl 3 (by decide) rfl gw_701 rfl pfd_I (vp_nar_int _) rfl (Nat.le_of_ble_eq_true rfl) (ws' := wX7 cI h0 h1 h2 h3 h4 p sv asd tx (states - 1) len at_ letter one two number) rfl dX7_undo_17 ?_
    refine kw_iconst X dX7_undo_20 ci_0 ?_
    refine kw_istore_n (lo' := [(0, .ref h0), (1, .int 0)]) X dX7_undo_21 rfl (by decide) [1, 0] rfl ?_
    obtain ⟨w10, hx, hF⟩ := ob1_ex hF
    have J : KW Γ 0 0 (wX7 cI h0 h1 h2 h3 h4 w10 sv asd tx (states - 1) len at_ letter one two number) [(0, .ref h0)] 56 [] := by
      refine kw_aload_n X dX7_undo_56 rfl 0 rfl ?_
      refine kw_get X inX7 0 rfl rfl 3 (by decide) rfl gw_701 rfl dX7_undo_57 ?_
      obtain ⟨rfl, rfl, rfl⟩ := si3 hF
      exact hret _ _ (vp_nar_int _) dX7_undo_60
    have hL22 : ∀ (F : Nat) (v1_11 : Int32) (w12 : Nat → Int32), f_X7_undo_L22 sv states F v1_11 w12 = some (w10) → KW Γ 0 0 (wX7 cI h0 h1 h2 h3 h4 w12 sv asd tx (states - 1) len at_ letter one two number) [(0, .ref h0), (1, .int v1_11)] 22 [] := by
      intro F
      induction F with
      | zero => intro v1_11 w12 hF; exact none_some hF
      | succ F ih22 =>
        intro v1_11 w12 hF
        rw [f_X7_undo_L22] at hF
        refine kw_iload_n X dX7_undo_22 rfl 1 rfl ?_
        refine kw_sipush X dX7_undo_23 cs_986 ?_
        refine kw_icmp_ge X 56 dX7_undo_26 (by decide) (fun q13 => ?_) (fun q13 => ?_)
        · replace hF := (if_neg q13).symm.trans hF
          refine kw_loc (lo' := [(0, .ref h0)]) [0] rfl ?_
          obtain rfl := si1 hF
          exact J
        · replace hF := (if_pos q13).symm.trans hF
          refine kw_aload_n X dX7_undo_29 rfl 0 rfl ?_
          refine kw_get X inX7 0 rfl rfl 0 (by decide) rfl gw_698 rfl dX7_undo_30 ?_
          refine kw_iload_n X dX7_undo_33 rfl 1 rfl ?_
          refine kw_aload_n X dX7_undo_34 rfl 0 rfl ?_
          refine kw_get X inX7 0 rfl rfl 1 (by decide) rfl gw_699 rfl dX7_undo_35 ?_
          refine kw_sipush X dX7_undo_38 cs_986 ?_
          refine kw_aload_n X dX7_undo_41 rfl 0 rfl ?_
          refine kw_get X inX7 0 rfl rfl 3 (by decide) rfl gw_701 rfl dX7_undo_42 ?_
          refine kw_imul X dX7_undo_45 ?_
          refine kw_iload_n X dX7_undo_46 rfl 1 rfl ?_
          refine kw_iadd X dX7_undo_47 ?_
          obtain ⟨a14, hx, hF⟩ := ob1_ex hF
          obtain ⟨hin, hx⟩ := aget_ex hx
          refine kw_iald X 2 0 rfl rfl hin hx dX7_undo_48 ?_
          obtain ⟨m15, hx, hF⟩ := ob1_ex hF
          obtain ⟨hin, hx⟩ := aset_ex hx
          refine kw_iast X E 1 0 rfl rfl hin (ws' := wX7 cI h0 h1 h2 h3 h4 m15 sv asd tx (states - 1) len at_ letter one two number) (by rw [hx]; rfl) dX7_undo_49 ?_
          refine kw_iinc (lo' := [(0, .ref h0), (1, .int (v1_11 + 1))]) X dX7_undo_50 1 rfl (congrArg (fun w => v1_11 + w) ci_1) (by decide) [1, 0] rfl ?_
          refine kw_goto X 22 dX7_undo_53 (by decide) ?_
          exact ih22 _ _ hF
    exact hL22 Z _ _ hx
  · replace hF := (if_pos q1).symm.trans hF
    refine kw_bipush X dX7_undo_7 cb_m2 ?_
    obtain ⟨rfl, rfl, rfl⟩ := si3 hF
    exact hret _ _ (vp_nar_int _) dX7_undo_9
-- X7_append
def f_X7_append (tx : Nat → Int32) (len : Int32) (p1 : Int32) : Option (Int32 × (Nat → Int32) × Int32) :=
  (if (f_X7_in p1 1 255) = 0 then (some ((-1), tx, len)) else (if len = 80 then (some ((-3), tx, len)) else ob1 (aset 80 tx len p1) (fun m3 => (some ((len + 1), m3, (len + 1))))))
abbrev rm_X7_append : Room := { frames := 1, cells := 0, slots := 0, locals := 22 }
set_option maxHeartbeats 4000000 in
set_option maxRecDepth 100000 in
theorem c_X7_append (l : Launch) (D : va_G) (cI cC cR : ClassId) (h0 h1 h2 h3 h4 : Nat) (p : Nat → Int32) (sv : Nat → Int32) (asd : Nat → Int32) (tx : Nat → Int32) (states : Int32) (len : Int32) (at_ : Int32) (letter : Int32) (one : Int32) (two : Int32) (number : Int32) (p1 : Int32) (r : Int32) (tx' : Nat → Int32) (len' : Int32) (hF : f_X7_append tx len p1 = some (r, tx', len')) : MEq l yX7_append cX7_append 2 (some .int) rm_X7_append D (TY cI cC cR) [.ref h0, .int p1] (wX7 cI h0 h1 h2 h3 h4 p sv asd tx states len at_ letter one two number) (wX7 cI h0 h1 h2 h3 h4 p sv asd tx' states len' at_ letter one two number) (some (.int r)) := by
  refine me_e pn_X7 (Nat.le_of_ble_eq_true rfl) rfl (fun Γ X E hret => ?_)
  unfold f_X7_append at hF
  refine kw_iload_n X dX7_append_0 rfl 1 rfl ?_
  refine kw_iconst X dX7_append_1 ci_1 ?_
  refine kw_sipush X dX7_append_2 cs_255 ?_
  refine kw_sp X (r := .int (f_X7_in p1 1 255)) (As := [.int p1, .int 1, .int 255]) (st := []) (c_X7_in l D cI cC cR  p1 1 255 (f_X7_in p1 1 255) rfl) vl_X7_22 yv_X7_in ⟨Nat.le_of_ble_eq_true rfl, Nat.le_of_ble_eq_true rfl⟩ ⟨rfl, rfl⟩ ⟨Nat.zero_le _, Nat.zero_le _⟩ [] rfl rfl rfl rfl (Nat.le_of_ble_eq_true rfl) dX7_append_5 ?_
  refine kw_if_ne X 13 dX7_append_8 (by decide) (fun q1 => ?_) (fun q1 => ?_)
  · replace hF := (if_neg q1).symm.trans hF
    refine kw_aload_n X dX7_append_13 rfl 0 rfl ?_
    refine kw_get X inX7 0 rfl rfl 5 (by decide) rfl gw_703 rfl dX7_append_14 ?_
    refine kw_bipush X dX7_append_17 cb_80 ?_
    refine kw_icmp_ne X 25 dX7_append_19 (by decide) (fun q2 => ?_) (fun q2 => ?_)
    · replace hF := (if_neg q2).symm.trans hF
      refine kw_aload_n X dX7_append_25 rfl 0 rfl ?_
      refine kw_get X inX7 0 rfl rfl 4 (by decide) rfl gw_702 rfl dX7_append_26 ?_
      refine kw_aload_n X dX7_append_29 rfl 0 rfl ?_
      refine kw_get X inX7 0 rfl rfl 5 (by decide) rfl gw_703 rfl dX7_append_30 ?_
      refine kw_iload_n X dX7_append_33 rfl 1 rfl ?_
      obtain ⟨m3, hx, hF⟩ := ob1_ex hF
      obtain ⟨hin, hx⟩ := aset_ex hx
      refine kw_iast X E 4 0 rfl rfl hin (ws' := wX7 cI h0 h1 h2 h3 h4 p sv asd m3 states len at_ letter one two number) (by rw [hx]; rfl) dX7_append_34 ?_
      refine kw_aload_n X dX7_append_35 rfl 0 rfl ?_
      refine kw_dup X dX7_append_36 rfl ?_
      refine kw_get X inX7 0 rfl rfl 5 (by decide) rfl gw_703 rfl dX7_append_37 ?_
      refine kw_iconst X dX7_append_40 ci_1 ?_
      refine kw_iadd X dX7_append_41 ?_
      refine kw_put X E inX7 tyX7 tyX7_ok nmX7 0 rfl rfl 5 (by decide) rfl gw_703 rfl pfd_I (vp_nar_int _) rfl (Nat.le_of_ble_eq_true rfl) (ws' := wX7 cI h0 h1 h2 h3 h4 p sv asd m3 states (len + 1) at_ letter one two number) rfl dX7_append_42 ?_
      refine kw_aload_n X dX7_append_45 rfl 0 rfl ?_
      refine kw_get X inX7 0 rfl rfl 5 (by decide) rfl gw_703 rfl dX7_append_46 ?_
      obtain ⟨rfl, rfl, rfl⟩ := si3 hF
      exact hret _ _ (vp_nar_int _) dX7_append_49
    · replace hF := (if_pos q2).symm.trans hF
      refine kw_bipush X dX7_append_22 cb_m3 ?_
      obtain ⟨rfl, rfl, rfl⟩ := si3 hF
      exact hret _ _ (vp_nar_int _) dX7_append_24
  · replace hF := (if_pos q1).symm.trans hF
    refine kw_iconst X dX7_append_11 ci_m1 ?_
    obtain ⟨rfl, rfl, rfl⟩ := si3 hF
    exact hret _ _ (vp_nar_int _) dX7_append_12
-- X7_clearText
def f_X7_clearText (len : Int32) : Int32 × Int32 :=
  (len, 0)
abbrev rm_X7_clearText : Room := { frames := 0, cells := 0, slots := 0, locals := 0 }
set_option maxHeartbeats 4000000 in
set_option maxRecDepth 100000 in
theorem c_X7_clearText (l : Launch) (D : va_G) (cI cC cR : ClassId) (h0 h1 h2 h3 h4 : Nat) (p : Nat → Int32) (sv : Nat → Int32) (asd : Nat → Int32) (tx : Nat → Int32) (states : Int32) (len : Int32) (at_ : Int32) (letter : Int32) (one : Int32) (two : Int32) (number : Int32) (r : Int32) (len' : Int32) (hF : f_X7_clearText len = (r, len')) : MEq l yX7_clearText cX7_clearText 2 (some .int) rm_X7_clearText D (TY cI cC cR) [.ref h0] (wX7 cI h0 h1 h2 h3 h4 p sv asd tx states len at_ letter one two number) (wX7 cI h0 h1 h2 h3 h4 p sv asd tx states len' at_ letter one two number) (some (.int r)) := by
  refine me_e pn_X7 (Nat.le_of_ble_eq_true rfl) rfl (fun Γ X E hret => ?_)
  unfold f_X7_clearText at hF
  refine kw_aload_n X dX7_clearText_0 rfl 0 rfl ?_
  refine kw_get X inX7 0 rfl rfl 5 (by decide) rfl gw_703 rfl dX7_clearText_1 ?_
  refine kw_istore_n (lo' := [(0, .ref h0), (1, .int len)]) X dX7_clearText_4 rfl (by decide) [1, 0] rfl ?_
  refine kw_aload_n X dX7_clearText_5 rfl 0 rfl ?_
  refine kw_iconst X dX7_clearText_6 ci_0 ?_
  refine kw_put X E inX7 tyX7 tyX7_ok nmX7 0 rfl rfl 5 (by decide) rfl gw_703 rfl pfd_I (vp_nar_int _) rfl (Nat.le_of_ble_eq_true rfl) (ws' := wX7 cI h0 h1 h2 h3 h4 p sv asd tx states 0 at_ letter one two number) rfl dX7_clearText_7 ?_
  refine kw_iload_n X dX7_clearText_10 rfl 1 rfl ?_
  obtain ⟨rfl, rfl⟩ := ti2 hF
  exact hret _ _ (vp_nar_int _) dX7_clearText_11
-- X7_here
def f_X7_here (tx : Nat → Int32) (len : Int32) (at_ : Int32) : Option (Int32) :=
  (if at_ < len then ob1 (aget 80 tx at_) (fun a2 => (some a2)) else (some (-1)))
abbrev rm_X7_here : Room := { frames := 0, cells := 0, slots := 0, locals := 0 }
set_option maxHeartbeats 4000000 in
set_option maxRecDepth 100000 in
theorem c_X7_here (l : Launch) (D : va_G) (cI cC cR : ClassId) (h0 h1 h2 h3 h4 : Nat) (p : Nat → Int32) (sv : Nat → Int32) (asd : Nat → Int32) (tx : Nat → Int32) (states : Int32) (len : Int32) (at_ : Int32) (letter : Int32) (one : Int32) (two : Int32) (number : Int32) (r : Int32) (hF : f_X7_here tx len at_ = some r) : MPi l yX7_here cX7_here 1 (some .int) rm_X7_here D (TY cI cC cR) [.ref h0] (wX7 cI h0 h1 h2 h3 h4 p sv asd tx states len at_ letter one two number) (.int r) := by
  refine me_p pn_X7 (Nat.le_of_ble_eq_true rfl) rfl (fun Γ X hret => ?_)
  unfold f_X7_here at hF
  refine kw_aload_n X dX7_here_0 rfl 0 rfl ?_
  refine kw_get X inX7 0 rfl rfl 6 (by decide) rfl gw_704 rfl dX7_here_1 ?_
  refine kw_aload_n X dX7_here_4 rfl 0 rfl ?_
  refine kw_get X inX7 0 rfl rfl 5 (by decide) rfl gw_703 rfl dX7_here_5 ?_
  refine kw_icmp_ge X 23 dX7_here_8 (by decide) (fun q1 => ?_) (fun q1 => ?_)
  · replace hF := (if_neg q1).symm.trans hF
    refine kw_iconst X dX7_here_23 ci_m1 ?_
    obtain rfl := si1 hF
    exact hret _ _ _ (vp_nar_int _) dX7_here_24
  · replace hF := (if_pos q1).symm.trans hF
    refine kw_aload_n X dX7_here_11 rfl 0 rfl ?_
    refine kw_get X inX7 0 rfl rfl 4 (by decide) rfl gw_702 rfl dX7_here_12 ?_
    refine kw_aload_n X dX7_here_15 rfl 0 rfl ?_
    refine kw_get X inX7 0 rfl rfl 6 (by decide) rfl gw_704 rfl dX7_here_16 ?_
    obtain ⟨a2, hx, hF⟩ := ob1_ex hF
    obtain ⟨hin, hx⟩ := aget_ex hx
    refine kw_iald X 4 0 rfl rfl hin hx dX7_here_19 ?_
    refine kw_goto X 24 dX7_here_20 (by decide) ?_
    obtain rfl := si1 hF
    exact hret _ _ _ (vp_nar_int _) dX7_here_24
-- X7_passes_
def f_X7_passes_ (tx : Nat → Int32) (len : Int32) (at_ : Int32) (p1 : Int32) : Option (Int32 × Int32) :=
  (ob1 (f_X7_here tx len at_) (fun (b1 : Int32) => (pl1 (if b1 = p1 then 1 else 0) (fun (x3 : Int32) => (pl1 (if x3 = 0 then 0 else 1) (fun (x6 : Int32) => (some (x3, (at_ + x6)))))))))
abbrev rm_X7_passes_ : Room := { frames := 1, cells := 0, slots := 0, locals := 20 }
set_option maxHeartbeats 4000000 in
set_option maxRecDepth 100000 in
theorem c_X7_passes_ (l : Launch) (D : va_G) (cI cC cR : ClassId) (h0 h1 h2 h3 h4 : Nat) (p : Nat → Int32) (sv : Nat → Int32) (asd : Nat → Int32) (tx : Nat → Int32) (states : Int32) (len : Int32) (at_ : Int32) (letter : Int32) (one : Int32) (two : Int32) (number : Int32) (p1 : Int32) (r : Int32) (at_' : Int32) (hF : f_X7_passes_ tx len at_ p1 = some (r, at_')) : MEq l yX7_passes_ cX7_passes_ 3 (some .boolean) rm_X7_passes_ D (TY cI cC cR) [.ref h0, .int p1] (wX7 cI h0 h1 h2 h3 h4 p sv asd tx states len at_ letter one two number) (wX7 cI h0 h1 h2 h3 h4 p sv asd tx states len at_' letter one two number) (some (.int r)) := by
  refine me_e pn_X7 (Nat.le_of_ble_eq_true rfl) rfl (fun Γ X E hret => ?_)
  unfold f_X7_passes_ at hF
  refine kw_aload_n X dX7_passes__0 rfl 0 rfl ?_
  obtain ⟨b1, hx1, hF⟩ := ob1_ex hF
  refine kw_ap X (r := .int b1) (As := []) (st := []) (c_X7_here l D cI cC cR h0 h1 h2 h3 h4 p sv asd tx states len at_ letter one two number b1 hx1) vl_X7_122 yv_X7_here ⟨Nat.le_of_ble_eq_true rfl, Nat.le_of_ble_eq_true rfl⟩ ⟨rfl, rfl⟩ ⟨Nat.zero_le _, Nat.zero_le _⟩ 0 rfl rfl rfl rfl (Nat.le_of_ble_eq_true rfl) dX7_passes__1 ?_
  refine kw_iload_n X dX7_passes__4 rfl 1 rfl ?_
  obtain ⟨x3, hx4, hF⟩ := pl1_ex hF
  have J : KW Γ 0 0 (wX7 cI h0 h1 h2 h3 h4 p sv asd tx states len at_ letter one two number) [(0, .ref h0)] 13 [.int x3] := by
    refine kw_istore_n (lo' := [(0, .ref h0), (2, .int x3)]) X dX7_passes__13 rfl (by decide) [1, 0] rfl ?_
    refine kw_aload_n X dX7_passes__14 rfl 0 rfl ?_
    refine kw_dup X dX7_passes__15 rfl ?_
    refine kw_get X inX7 0 rfl rfl 6 (by decide) rfl gw_704 rfl dX7_passes__16 ?_
    refine kw_iload_n X dX7_passes__19 rfl 1 rfl ?_
    obtain ⟨x6, hx7, hF⟩ := pl1_ex hF
    have J : KW Γ 0 0 (wX7 cI h0 h1 h2 h3 h4 p sv asd tx states len at_ letter one two number) [(2, .int x3)] 28 [.int x6, .int at_, .ref h0] := by
      refine kw_iadd X dX7_passes__28 ?_
      refine kw_put X E inX7 tyX7 tyX7_ok nmX7 0 rfl rfl 6 (by decide) rfl gw_704 rfl pfd_I (vp_nar_int _) rfl (Nat.le_of_ble_eq_true rfl) (ws' := wX7 cI h0 h1 h2 h3 h4 p sv asd tx states len (at_ + x6) letter one two number) rfl dX7_passes__29 ?_
      refine kw_iload_n X dX7_passes__32 rfl 0 rfl ?_
      obtain ⟨rfl, rfl⟩ := si2 hF
      exact hret _ _ (by rw [← hx4]; repeat' split; all_goals rfl) dX7_passes__33
    replace hF := hx7
    refine kw_if_eq X 27 dX7_passes__20 (by decide) (fun q5 => ?_) (fun q5 => ?_)
    · replace hF := (if_pos q5).symm.trans hF
      refine kw_iconst X dX7_passes__27 ci_0 ?_
      refine kw_loc (lo' := [(2, .int x3)]) [1] rfl ?_
      obtain rfl := ti1 hF
      exact J
    · replace hF := (if_neg q5).symm.trans hF
      refine kw_iconst X dX7_passes__23 ci_1 ?_
      refine kw_goto X 28 dX7_passes__24 (by decide) ?_
      refine kw_loc (lo' := [(2, .int x3)]) [1] rfl ?_
      obtain rfl := ti1 hF
      exact J
  replace hF := hx4
  refine kw_icmp_ne X 12 dX7_passes__5 (by decide) (fun q2 => ?_) (fun q2 => ?_)
  · replace hF := (if_neg q2).symm.trans hF
    refine kw_iconst X dX7_passes__12 ci_0 ?_
    refine kw_loc (lo' := [(0, .ref h0)]) [0] rfl ?_
    obtain rfl := ti1 hF
    exact J
  · replace hF := (if_pos q2).symm.trans hF
    refine kw_iconst X dX7_passes__8 ci_1 ?_
    refine kw_goto X 13 dX7_passes__9 (by decide) ?_
    refine kw_loc (lo' := [(0, .ref h0)]) [0] rfl ?_
    obtain rfl := ti1 hF
    exact J
-- X7_readNumber
def f_X7_readNumber (tx : Nat → Int32) (len : Int32) (at_ : Int32) (number : Int32) : Option (Int32 × Int32 × Int32) :=
  (ob1 (f_X7_here tx len at_) (fun (b1 : Int32) => (if (f_X7_in b1 48 57) = 0 then (some (0, at_, number)) else (ob1 (f_X7_here tx len at_) (fun (b3 : Int32) => (ob2 (if 0 < (b3 - 48) then (ob1 (f_X7_here tx len (at_ + 1)) (fun (b12 : Int32) => (if (f_X7_in b12 48 57) = 0 then (some ((at_ + 1), (b3 - 48))) else (ob1 (f_X7_here tx len (at_ + 1)) (fun (b14 : Int32) => (some (((at_ + 1) + 1), (((10 * (b3 - 48)) + b14) - 48)))))))) else (some ((at_ + 1), (b3 - 48)))) (fun (w9 : Int32) (w10 : Int32) => (some (1, w9, w10)))))))))
abbrev rm_X7_readNumber : Room := { frames := 1, cells := 0, slots := 0, locals := 22 }
set_option maxHeartbeats 4000000 in
set_option maxRecDepth 100000 in
theorem c_X7_readNumber (l : Launch) (D : va_G) (cI cC cR : ClassId) (h0 h1 h2 h3 h4 : Nat) (p : Nat → Int32) (sv : Nat → Int32) (asd : Nat → Int32) (tx : Nat → Int32) (states : Int32) (len : Int32) (at_ : Int32) (letter : Int32) (one : Int32) (two : Int32) (number : Int32) (r : Int32) (at_' : Int32) (number' : Int32) (hF : f_X7_readNumber tx len at_ number = some (r, at_', number')) : MEq l yX7_readNumber cX7_readNumber 1 (some .boolean) rm_X7_readNumber D (TY cI cC cR) [.ref h0] (wX7 cI h0 h1 h2 h3 h4 p sv asd tx states len at_ letter one two number) (wX7 cI h0 h1 h2 h3 h4 p sv asd tx states len at_' letter one two number') (some (.int r)) := by
  refine me_e pn_X7 (Nat.le_of_ble_eq_true rfl) rfl (fun Γ X E hret => ?_)
  unfold f_X7_readNumber at hF
  refine kw_aload_n X dX7_readNumber_0 rfl 0 rfl ?_
  obtain ⟨b1, hx1, hF⟩ := ob1_ex hF
  refine kw_ap X (r := .int b1) (As := []) (st := []) (c_X7_here l D cI cC cR h0 h1 h2 h3 h4 p sv asd tx states len at_ letter one two number b1 hx1) vl_X7_122 yv_X7_here ⟨Nat.le_of_ble_eq_true rfl, Nat.le_of_ble_eq_true rfl⟩ ⟨rfl, rfl⟩ ⟨Nat.zero_le _, Nat.zero_le _⟩ 0 rfl rfl rfl rfl (Nat.le_of_ble_eq_true rfl) dX7_readNumber_1 ?_
  refine kw_bipush X dX7_readNumber_4 cb_48 ?_
  refine kw_bipush X dX7_readNumber_6 cb_57 ?_
  refine kw_sp X (r := .int (f_X7_in b1 48 57)) (As := [.int b1, .int 48, .int 57]) (st := []) (c_X7_in l D cI cC cR  b1 48 57 (f_X7_in b1 48 57) rfl) vl_X7_22 yv_X7_in ⟨Nat.le_of_ble_eq_true rfl, Nat.le_of_ble_eq_true rfl⟩ ⟨rfl, rfl⟩ ⟨Nat.zero_le _, Nat.zero_le _⟩ [] rfl rfl rfl rfl (Nat.le_of_ble_eq_true rfl) dX7_readNumber_8 ?_
  refine kw_if_ne X 16 dX7_readNumber_11 (by decide) (fun q2 => ?_) (fun q2 => ?_)
  · replace hF := (if_neg q2).symm.trans hF
    refine kw_aload_n X dX7_readNumber_16 rfl 0 rfl ?_
    refine kw_aload_n X dX7_readNumber_17 rfl 0 rfl ?_
    obtain ⟨b3, hx3, hF⟩ := ob1_ex hF
    refine kw_ap X (r := .int b3) (As := []) (st := [.ref h0]) (c_X7_here l D cI cC cR h0 h1 h2 h3 h4 p sv asd tx states len at_ letter one two number b3 hx3) vl_X7_122 yv_X7_here ⟨Nat.le_of_ble_eq_true rfl, Nat.le_of_ble_eq_true rfl⟩ ⟨rfl, rfl⟩ ⟨Nat.zero_le _, Nat.zero_le _⟩ 0 rfl rfl rfl rfl (Nat.le_of_ble_eq_true rfl) dX7_readNumber_18 ?_
    refine kw_bipush X dX7_readNumber_21 cb_48 ?_
    refine kw_isub X dX7_readNumber_23 ?_
    refine kw_put X E inX7 tyX7 tyX7_ok nmX7 0 rfl rfl 10 (by decide) rfl gw_708 rfl pfd_I (vp_nar_int _) rfl (Nat.le_of_ble_eq_true rfl) (ws' := wX7 cI h0 h1 h2 h3 h4 p sv asd tx states len at_ letter one two (b3 - 48)) rfl dX7_readNumber_24 ?_
    refine kw_aload_n X dX7_readNumber_27 rfl 0 rfl ?_
    refine kw_dup X dX7_readNumber_28 rfl ?_
    refine kw_get X inX7 0 rfl rfl 6 (by decide) rfl gw_704 rfl dX7_readNumber_29 ?_
    refine kw_iconst X dX7_readNumber_32 ci_1 ?_
    refine kw_iadd X dX7_readNumber_33 ?_
    refine kw_put X E inX7 tyX7 tyX7_ok nmX7 0 rfl rfl 6 (by decide) rfl gw_704 rfl pfd_I (vp_nar_int _) rfl (Nat.le_of_ble_eq_true rfl) (ws' := wX7 cI h0 h1 h2 h3 h4 p sv asd tx states len (at_ + 1) letter one two (b3 - 48)) rfl dX7_readNumber_34 ?_
    refine kw_aload_n X dX7_readNumber_37 rfl 0 rfl ?_
    refine kw_get X inX7 0 rfl rfl 10 (by decide) rfl gw_708 rfl dX7_readNumber_38 ?_
    obtain ⟨w9, w10, hx11, hF⟩ := ob2_ex hF
    have J : KW Γ 0 0 (wX7 cI h0 h1 h2 h3 h4 p sv asd tx states len w9 letter one two w10) [] 87 [] := by
      refine kw_iconst X dX7_readNumber_87 ci_1 ?_
      obtain ⟨rfl, rfl, rfl⟩ := si3 hF
      exact hret _ _ rfl dX7_readNumber_88
    replace hF := hx11
    refine kw_if_le X 87 dX7_readNumber_41 (by decide) (fun q4 => ?_) (fun q4 => ?_)
    · replace hF := (if_neg q4).symm.trans hF
      refine kw_loc (lo' := []) [] rfl ?_
      obtain ⟨rfl, rfl⟩ := si2 hF
      exact J
    · replace hF := (if_pos q4).symm.trans hF
      refine kw_aload_n X dX7_readNumber_44 rfl 0 rfl ?_
      obtain ⟨b12, hx12, hF⟩ := ob1_ex hF
      refine kw_ap X (r := .int b12) (As := []) (st := []) (c_X7_here l D cI cC cR h0 h1 h2 h3 h4 p sv asd tx states len (at_ + 1) letter one two (b3 - 48) b12 hx12) vl_X7_122 yv_X7_here ⟨Nat.le_of_ble_eq_true rfl, Nat.le_of_ble_eq_true rfl⟩ ⟨rfl, rfl⟩ ⟨Nat.zero_le _, Nat.zero_le _⟩ 0 rfl rfl rfl rfl (Nat.le_of_ble_eq_true rfl) dX7_readNumber_45 ?_
      refine kw_bipush X dX7_readNumber_48 cb_48 ?_
      refine kw_bipush X dX7_readNumber_50 cb_57 ?_
      refine kw_sp X (r := .int (f_X7_in b12 48 57)) (As := [.int b12, .int 48, .int 57]) (st := []) (c_X7_in l D cI cC cR  b12 48 57 (f_X7_in b12 48 57) rfl) vl_X7_22 yv_X7_in ⟨Nat.le_of_ble_eq_true rfl, Nat.le_of_ble_eq_true rfl⟩ ⟨rfl, rfl⟩ ⟨Nat.zero_le _, Nat.zero_le _⟩ [] rfl rfl rfl rfl (Nat.le_of_ble_eq_true rfl) dX7_readNumber_52 ?_
      refine kw_if_eq X 87 dX7_readNumber_55 (by decide) (fun q13 => ?_) (fun q13 => ?_)
      · replace hF := (if_pos q13).symm.trans hF
        refine kw_loc (lo' := []) [] rfl ?_
        obtain ⟨rfl, rfl⟩ := si2 hF
        exact J
      · replace hF := (if_neg q13).symm.trans hF
        refine kw_aload_n X dX7_readNumber_58 rfl 0 rfl ?_
        refine kw_bipush X dX7_readNumber_59 cb_10 ?_
        refine kw_aload_n X dX7_readNumber_61 rfl 0 rfl ?_
        refine kw_get X inX7 0 rfl rfl 10 (by decide) rfl gw_708 rfl dX7_readNumber_62 ?_
        refine kw_imul X dX7_readNumber_65 ?_
        refine kw_aload_n X dX7_readNumber_66 rfl 0 rfl ?_
        obtain ⟨b14, hx14, hF⟩ := ob1_ex hF
        refine kw_ap X (r := .int b14) (As := []) (st := [.int (10 * (b3 - 48)), .ref h0]) (c_X7_here l D cI cC cR h0 h1 h2 h3 h4 p sv asd tx states len (at_ + 1) letter one two (b3 - 48) b14 hx14) vl_X7_122 yv_X7_here ⟨Nat.le_of_ble_eq_true rfl, Nat.le_of_ble_eq_true rfl⟩ ⟨rfl, rfl⟩ ⟨Nat.zero_le _, Nat.zero_le _⟩ 0 rfl rfl rfl rfl (Nat.le_of_ble_eq_true rfl) dX7_readNumber_67 ?_
        refine kw_iadd X dX7_readNumber_70 ?_
        refine kw_bipush X dX7_readNumber_71 cb_48 ?_
        refine kw_isub X dX7_readNumber_73 ?_
        refine kw_put X E inX7 tyX7 tyX7_ok nmX7 0 rfl rfl 10 (by decide) rfl gw_708 rfl pfd_I (vp_nar_int _) rfl (Nat.le_of_ble_eq_true rfl) (ws' := wX7 cI h0 h1 h2 h3 h4 p sv asd tx states len (at_ + 1) letter one two (((10 * (b3 - 48)) + b14) - 48)) rfl dX7_readNumber_74 ?_
        refine kw_aload_n X dX7_readNumber_77 rfl 0 rfl ?_
        refine kw_dup X dX7_readNumber_78 rfl ?_
        refine kw_get X inX7 0 rfl rfl 6 (by decide) rfl gw_704 rfl dX7_readNumber_79 ?_
        refine kw_iconst X dX7_readNumber_82 ci_1 ?_
        refine kw_iadd X dX7_readNumber_83 ?_
        refine kw_put X E inX7 tyX7 tyX7_ok nmX7 0 rfl rfl 6 (by decide) rfl gw_704 rfl pfd_I (vp_nar_int _) rfl (Nat.le_of_ble_eq_true rfl) (ws' := wX7 cI h0 h1 h2 h3 h4 p sv asd tx states len ((at_ + 1) + 1) letter one two (((10 * (b3 - 48)) + b14) - 48)) rfl dX7_readNumber_84 ?_
        refine kw_loc (lo' := []) [] rfl ?_
        obtain ⟨rfl, rfl⟩ := si2 hF
        exact J
  · replace hF := (if_pos q2).symm.trans hF
    refine kw_iconst X dX7_readNumber_14 ci_0 ?_
    obtain ⟨rfl, rfl, rfl⟩ := si3 hF
    exact hret _ _ rfl dX7_readNumber_15
-- X7_readOrder
def f_X7_readOrder (tx : Nat → Int32) (len : Int32) (at_ : Int32) (one : Int32) (two : Int32) (number : Int32) : Option (Int32 × Int32 × Int32 × Int32 × Int32 × Int32) :=
  (ob1 (f_X7_here tx len at_) (fun (b1 : Int32) => (if b1 = 98 then (if b1 = 108 then (some (1, (at_ + 1), b1, one, two, number)) else (ob3 (f_X7_readNumber tx len (at_ + 1) number) (fun (b4 : Int32) (b5 : Int32) (b6 : Int32) => (if b4 = 0 then (some (0, b5, b1, one, two, b6)) else (pl1 (if b1 = 104 then 44 else 64) (fun (x9 : Int32) => (ob2 (f_X7_passes_ tx len b5 x9) (fun (b11 : Int32) (b12 : Int32) => (if b11 = 0 then (some (0, b12, b1, b6, two, b6)) else (ob3 (f_X7_readNumber tx len b12 b6) (fun (b14 : Int32) (b15 : Int32) (b16 : Int32) => (if b14 = 0 then (some (0, b15, b1, b6, two, b16)) else (some (1, b15, b1, b6, b16, b16)))))))))))))) else (if b1 = 114 then (if b1 = 108 then (some (1, (at_ + 1), b1, one, two, number)) else (ob3 (f_X7_readNumber tx len (at_ + 1) number) (fun (b20 : Int32) (b21 : Int32) (b22 : Int32) => (if b20 = 0 then (some (0, b21, b1, one, two, b22)) else (pl1 (if b1 = 104 then 44 else 64) (fun (x25 : Int32) => (ob2 (f_X7_passes_ tx len b21 x25) (fun (b27 : Int32) (b28 : Int32) => (if b27 = 0 then (some (0, b28, b1, b22, two, b22)) else (ob3 (f_X7_readNumber tx len b28 b22) (fun (b30 : Int32) (b31 : Int32) (b32 : Int32) => (if b30 = 0 then (some (0, b31, b1, b22, two, b32)) else (some (1, b31, b1, b22, b32, b32)))))))))))))) else (if b1 = 104 then (if b1 = 108 then (some (1, (at_ + 1), b1, one, two, number)) else (ob3 (f_X7_readNumber tx len (at_ + 1) number) (fun (b36 : Int32) (b37 : Int32) (b38 : Int32) => (if b36 = 0 then (some (0, b37, b1, one, two, b38)) else (pl1 (if b1 = 104 then 44 else 64) (fun (x41 : Int32) => (ob2 (f_X7_passes_ tx len b37 x41) (fun (b43 : Int32) (b44 : Int32) => (if b43 = 0 then (some (0, b44, b1, b38, two, b38)) else (ob3 (f_X7_readNumber tx len b44 b38) (fun (b46 : Int32) (b47 : Int32) (b48 : Int32) => (if b46 = 0 then (some (0, b47, b1, b38, two, b48)) else (some (1, b47, b1, b38, b48, b48)))))))))))))) else (if b1 = 108 then (if b1 = 108 then (some (1, (at_ + 1), b1, one, two, number)) else (ob3 (f_X7_readNumber tx len (at_ + 1) number) (fun (b52 : Int32) (b53 : Int32) (b54 : Int32) => (if b52 = 0 then (some (0, b53, b1, one, two, b54)) else (pl1 (if b1 = 104 then 44 else 64) (fun (x57 : Int32) => (ob2 (f_X7_passes_ tx len b53 x57) (fun (b59 : Int32) (b60 : Int32) => (if b59 = 0 then (some (0, b60, b1, b54, two, b54)) else (ob3 (f_X7_readNumber tx len b60 b54) (fun (b62 : Int32) (b63 : Int32) (b64 : Int32) => (if b62 = 0 then (some (0, b63, b1, b54, two, b64)) else (some (1, b63, b1, b54, b64, b64)))))))))))))) else (some (0, at_, b1, one, two, number))))))))
abbrev rm_X7_readOrder : Room := { frames := 2, cells := 0, slots := 0, locals := 42 }
set_option maxHeartbeats 4000000 in
set_option maxRecDepth 100000 in
theorem c_X7_readOrder (l : Launch) (D : va_G) (cI cC cR : ClassId) (h0 h1 h2 h3 h4 : Nat) (p : Nat → Int32) (sv : Nat → Int32) (asd : Nat → Int32) (tx : Nat → Int32) (states : Int32) (len : Int32) (at_ : Int32) (letter : Int32) (one : Int32) (two : Int32) (number : Int32) (r : Int32) (at_' : Int32) (letter' : Int32) (one' : Int32) (two' : Int32) (number' : Int32) (hF : f_X7_readOrder tx len at_ one two number = some (r, at_', letter', one', two', number')) : MEq l yX7_readOrder cX7_readOrder 1 (some .boolean) rm_X7_readOrder D (TY cI cC cR) [.ref h0] (wX7 cI h0 h1 h2 h3 h4 p sv asd tx states len at_ letter one two number) (wX7 cI h0 h1 h2 h3 h4 p sv asd tx states len at_' letter' one' two' number') (some (.int r)) := by
  refine me_e pn_X7 (Nat.le_of_ble_eq_true rfl) rfl (fun Γ X E hret => ?_)
  unfold f_X7_readOrder at hF
  refine kw_aload_n X dX7_readOrder_0 rfl 0 rfl ?_
  refine kw_aload_n X dX7_readOrder_1 rfl 0 rfl ?_
  obtain ⟨b1, hx1, hF⟩ := ob1_ex hF
  refine kw_ap X (r := .int b1) (As := []) (st := [.ref h0]) (c_X7_here l D cI cC cR h0 h1 h2 h3 h4 p sv asd tx states len at_ letter one two number b1 hx1) vl_X7_122 yv_X7_here ⟨Nat.le_of_ble_eq_true rfl, Nat.le_of_ble_eq_true rfl⟩ ⟨rfl, rfl⟩ ⟨Nat.zero_le _, Nat.zero_le _⟩ 0 rfl rfl rfl rfl (Nat.le_of_ble_eq_true rfl) dX7_readOrder_2 ?_
  refine kw_put X E inX7 tyX7 tyX7_ok nmX7 0 rfl rfl 7 (by decide) rfl gw_705 rfl pfd_I (vp_nar_int _) rfl (Nat.le_of_ble_eq_true rfl) (ws' := wX7 cI h0 h1 h2 h3 h4 p sv asd tx states len at_ b1 one two number) rfl dX7_readOrder_5 ?_
  refine kw_aload_n X dX7_readOrder_8 rfl 0 rfl ?_
  refine kw_get X inX7 0 rfl rfl 7 (by decide) rfl gw_705 rfl dX7_readOrder_9 ?_
  refine kw_bipush X dX7_readOrder_12 cb_98 ?_
  refine kw_icmp_eq X 46 dX7_readOrder_14 (by decide) (fun q2 => ?_) (fun q2 => ?_)
  · replace hF := (if_pos q2).symm.trans hF
    refine kw_aload_n X dX7_readOrder_46 rfl 0 rfl ?_
    refine kw_dup X dX7_readOrder_47 rfl ?_
    refine kw_get X inX7 0 rfl rfl 6 (by decide) rfl gw_704 rfl dX7_readOrder_48 ?_
    refine kw_iconst X dX7_readOrder_51 ci_1 ?_
    refine kw_iadd X dX7_readOrder_52 ?_
    refine kw_put X E inX7 tyX7 tyX7_ok nmX7 0 rfl rfl 6 (by decide) rfl gw_704 rfl pfd_I (vp_nar_int _) rfl (Nat.le_of_ble_eq_true rfl) (ws' := wX7 cI h0 h1 h2 h3 h4 p sv asd tx states len (at_ + 1) b1 one two number) rfl dX7_readOrder_53 ?_
    refine kw_aload_n X dX7_readOrder_56 rfl 0 rfl ?_
    refine kw_get X inX7 0 rfl rfl 7 (by decide) rfl gw_705 rfl dX7_readOrder_57 ?_
    refine kw_bipush X dX7_readOrder_60 cb_108 ?_
    refine kw_icmp_ne X 67 dX7_readOrder_62 (by decide) (fun q3 => ?_) (fun q3 => ?_)
    · replace hF := (if_neg q3).symm.trans hF
      refine kw_aload_n X dX7_readOrder_67 rfl 0 rfl ?_
      obtain ⟨b4, b5, b6, hx6, hF⟩ := ob3_ex hF
      refine kw_aei X (r := .int b4) (As := []) (st := []) E (c_X7_readNumber l D cI cC cR h0 h1 h2 h3 h4 p sv asd tx states len (at_ + 1) b1 one two number b4 b5 b6 hx6) vl_X7_131 yv_X7_readNumber ⟨Nat.le_of_ble_eq_true rfl, Nat.le_of_ble_eq_true rfl⟩ ⟨rfl, rfl⟩ ⟨Nat.zero_le _, Nat.zero_le _⟩ 0 rfl rfl rfl rfl (Nat.le_of_ble_eq_true rfl) dX7_readOrder_68 ?_
      refine kw_if_ne X 76 dX7_readOrder_71 (by decide) (fun q7 => ?_) (fun q7 => ?_)
      · replace hF := (if_neg q7).symm.trans hF
        refine kw_aload_n X dX7_readOrder_76 rfl 0 rfl ?_
        refine kw_aload_n X dX7_readOrder_77 rfl 0 rfl ?_
        refine kw_get X inX7 0 rfl rfl 10 (by decide) rfl gw_708 rfl dX7_readOrder_78 ?_
        refine kw_put X E inX7 tyX7 tyX7_ok nmX7 0 rfl rfl 8 (by decide) rfl gw_706 rfl pfd_I (vp_nar_int _) rfl (Nat.le_of_ble_eq_true rfl) (ws' := wX7 cI h0 h1 h2 h3 h4 p sv asd tx states len b5 b1 b6 two b6) rfl dX7_readOrder_81 ?_
        refine kw_aload_n X dX7_readOrder_84 rfl 0 rfl ?_
        refine kw_aload_n X dX7_readOrder_85 rfl 0 rfl ?_
        refine kw_get X inX7 0 rfl rfl 7 (by decide) rfl gw_705 rfl dX7_readOrder_86 ?_
        refine kw_bipush X dX7_readOrder_89 cb_104 ?_
        obtain ⟨x9, hx10, hF⟩ := pl1_ex hF
        have J : KW Γ 0 0 (wX7 cI h0 h1 h2 h3 h4 p sv asd tx states len b5 b1 b6 two b6) [(0, .ref h0)] 101 [.int x9, .ref h0] := by
          obtain ⟨b11, b12, hx12, hF⟩ := ob2_ex hF
          refine kw_aei X (r := .int b11) (As := [.int x9]) (st := []) E (c_X7_passes_ l D cI cC cR h0 h1 h2 h3 h4 p sv asd tx states len b5 b1 b6 two b6 x9 b11 b12 hx12) vl_X7_138 yv_X7_passes_ ⟨Nat.le_of_ble_eq_true rfl, Nat.le_of_ble_eq_true rfl⟩ ⟨rfl, rfl⟩ ⟨Nat.zero_le _, Nat.zero_le _⟩ 0 rfl rfl rfl rfl (Nat.le_of_ble_eq_true rfl) dX7_readOrder_101 ?_
          refine kw_if_eq X 114 dX7_readOrder_104 (by decide) (fun q13 => ?_) (fun q13 => ?_)
          · replace hF := (if_pos q13).symm.trans hF
            refine kw_iconst X dX7_readOrder_114 ci_0 ?_
            obtain ⟨rfl, rfl, rfl, rfl, rfl, rfl⟩ := si6 hF
            exact hret _ _ rfl dX7_readOrder_115
          · replace hF := (if_neg q13).symm.trans hF
            refine kw_aload_n X dX7_readOrder_107 rfl 0 rfl ?_
            obtain ⟨b14, b15, b16, hx16, hF⟩ := ob3_ex hF
            refine kw_aei X (r := .int b14) (As := []) (st := []) E (c_X7_readNumber l D cI cC cR h0 h1 h2 h3 h4 p sv asd tx states len b12 b1 b6 two b6 b14 b15 b16 hx16) vl_X7_131 yv_X7_readNumber ⟨Nat.le_of_ble_eq_true rfl, Nat.le_of_ble_eq_true rfl⟩ ⟨rfl, rfl⟩ ⟨Nat.zero_le _, Nat.zero_le _⟩ 0 rfl rfl rfl rfl (Nat.le_of_ble_eq_true rfl) dX7_readOrder_108 ?_
            refine kw_if_ne X 116 dX7_readOrder_111 (by decide) (fun q17 => ?_) (fun q17 => ?_)
            · replace hF := (if_neg q17).symm.trans hF
              refine kw_aload_n X dX7_readOrder_116 rfl 0 rfl ?_
              refine kw_aload_n X dX7_readOrder_117 rfl 0 rfl ?_
              refine kw_get X inX7 0 rfl rfl 10 (by decide) rfl gw_708 rfl dX7_readOrder_118 ?_
              refine kw_put X E inX7 tyX7 tyX7_ok nmX7 0 rfl rfl 9 (by decide) rfl gw_707 rfl pfd_I (vp_nar_int _) rfl (Nat.le_of_ble_eq_true rfl) (ws' := wX7 cI h0 h1 h2 h3 h4 p sv asd tx states len b15 b1 b6 b16 b16) rfl dX7_readOrder_121 ?_
              refine kw_iconst X dX7_readOrder_124 ci_1 ?_
              obtain ⟨rfl, rfl, rfl, rfl, rfl, rfl⟩ := si6 hF
              exact hret _ _ rfl dX7_readOrder_125
            · replace hF := (if_pos q17).symm.trans hF
              refine kw_iconst X dX7_readOrder_114 ci_0 ?_
              obtain ⟨rfl, rfl, rfl, rfl, rfl, rfl⟩ := si6 hF
              exact hret _ _ rfl dX7_readOrder_115
        replace hF := hx10
        refine kw_icmp_ne X 99 dX7_readOrder_91 (by decide) (fun q8 => ?_) (fun q8 => ?_)
        · replace hF := (if_neg q8).symm.trans hF
          refine kw_bipush X dX7_readOrder_99 cb_64 ?_
          obtain rfl := ti1 hF
          exact J
        · replace hF := (if_pos q8).symm.trans hF
          refine kw_bipush X dX7_readOrder_94 cb_44 ?_
          refine kw_goto X 101 dX7_readOrder_96 (by decide) ?_
          obtain rfl := ti1 hF
          exact J
      · replace hF := (if_pos q7).symm.trans hF
        refine kw_iconst X dX7_readOrder_74 ci_0 ?_
        obtain ⟨rfl, rfl, rfl, rfl, rfl, rfl⟩ := si6 hF
        exact hret _ _ rfl dX7_readOrder_75
    · replace hF := (if_pos q3).symm.trans hF
      refine kw_iconst X dX7_readOrder_65 ci_1 ?_
      obtain ⟨rfl, rfl, rfl, rfl, rfl, rfl⟩ := si6 hF
      exact hret _ _ rfl dX7_readOrder_66
  · replace hF := (if_neg q2).symm.trans hF
    refine kw_aload_n X dX7_readOrder_17 rfl 0 rfl ?_
    refine kw_get X inX7 0 rfl rfl 7 (by decide) rfl gw_705 rfl dX7_readOrder_18 ?_
    refine kw_bipush X dX7_readOrder_21 cb_114 ?_
    refine kw_icmp_eq X 46 dX7_readOrder_23 (by decide) (fun q18 => ?_) (fun q18 => ?_)
    · replace hF := (if_pos q18).symm.trans hF
      refine kw_aload_n X dX7_readOrder_46 rfl 0 rfl ?_
      refine kw_dup X dX7_readOrder_47 rfl ?_
      refine kw_get X inX7 0 rfl rfl 6 (by decide) rfl gw_704 rfl dX7_readOrder_48 ?_
      refine kw_iconst X dX7_readOrder_51 ci_1 ?_
      refine kw_iadd X dX7_readOrder_52 ?_
      refine kw_put X E inX7 tyX7 tyX7_ok nmX7 0 rfl rfl 6 (by decide) rfl gw_704 rfl pfd_I (vp_nar_int _) rfl (Nat.le_of_ble_eq_true rfl) (ws' := wX7 cI h0 h1 h2 h3 h4 p sv asd tx states len (at_ + 1) b1 one two number) rfl dX7_readOrder_53 ?_
      refine kw_aload_n X dX7_readOrder_56 rfl 0 rfl ?_
      refine kw_get X inX7 0 rfl rfl 7 (by decide) rfl gw_705 rfl dX7_readOrder_57 ?_
      refine kw_bipush X dX7_readOrder_60 cb_108 ?_
      refine kw_icmp_ne X 67 dX7_readOrder_62 (by decide) (fun q19 => ?_) (fun q19 => ?_)
      · replace hF := (if_neg q19).symm.trans hF
        refine kw_aload_n X dX7_readOrder_67 rfl 0 rfl ?_
        obtain ⟨b20, b21, b22, hx22, hF⟩ := ob3_ex hF
        refine kw_aei X (r := .int b20) (As := []) (st := []) E (c_X7_readNumber l D cI cC cR h0 h1 h2 h3 h4 p sv asd tx states len (at_ + 1) b1 one two number b20 b21 b22 hx22) vl_X7_131 yv_X7_readNumber ⟨Nat.le_of_ble_eq_true rfl, Nat.le_of_ble_eq_true rfl⟩ ⟨rfl, rfl⟩ ⟨Nat.zero_le _, Nat.zero_le _⟩ 0 rfl rfl rfl rfl (Nat.le_of_ble_eq_true rfl) dX7_readOrder_68 ?_
        refine kw_if_ne X 76 dX7_readOrder_71 (by decide) (fun q23 => ?_) (fun q23 => ?_)
        · replace hF := (if_neg q23).symm.trans hF
          refine kw_aload_n X dX7_readOrder_76 rfl 0 rfl ?_
          refine kw_aload_n X dX7_readOrder_77 rfl 0 rfl ?_
          refine kw_get X inX7 0 rfl rfl 10 (by decide) rfl gw_708 rfl dX7_readOrder_78 ?_
          refine kw_put X E inX7 tyX7 tyX7_ok nmX7 0 rfl rfl 8 (by decide) rfl gw_706 rfl pfd_I (vp_nar_int _) rfl (Nat.le_of_ble_eq_true rfl) (ws' := wX7 cI h0 h1 h2 h3 h4 p sv asd tx states len b21 b1 b22 two b22) rfl dX7_readOrder_81 ?_
          refine kw_aload_n X dX7_readOrder_84 rfl 0 rfl ?_
          refine kw_aload_n X dX7_readOrder_85 rfl 0 rfl ?_
          refine kw_get X inX7 0 rfl rfl 7 (by decide) rfl gw_705 rfl dX7_readOrder_86 ?_
          refine kw_bipush X dX7_readOrder_89 cb_104 ?_
          obtain ⟨x25, hx26, hF⟩ := pl1_ex hF
          have J : KW Γ 0 0 (wX7 cI h0 h1 h2 h3 h4 p sv asd tx states len b21 b1 b22 two b22) [(0, .ref h0)] 101 [.int x25, .ref h0] := by
            obtain ⟨b27, b28, hx28, hF⟩ := ob2_ex hF
            refine kw_aei X (r := .int b27) (As := [.int x25]) (st := []) E (c_X7_passes_ l D cI cC cR h0 h1 h2 h3 h4 p sv asd tx states len b21 b1 b22 two b22 x25 b27 b28 hx28) vl_X7_138 yv_X7_passes_ ⟨Nat.le_of_ble_eq_true rfl, Nat.le_of_ble_eq_true rfl⟩ ⟨rfl, rfl⟩ ⟨Nat.zero_le _, Nat.zero_le _⟩ 0 rfl rfl rfl rfl (Nat.le_of_ble_eq_true rfl) dX7_readOrder_101 ?_
            refine kw_if_eq X 114 dX7_readOrder_104 (by decide) (fun q29 => ?_) (fun q29 => ?_)
            · replace hF := (if_pos q29).symm.trans hF
              refine kw_iconst X dX7_readOrder_114 ci_0 ?_
              obtain ⟨rfl, rfl, rfl, rfl, rfl, rfl⟩ := si6 hF
              exact hret _ _ rfl dX7_readOrder_115
            · replace hF := (if_neg q29).symm.trans hF
              refine kw_aload_n X dX7_readOrder_107 rfl 0 rfl ?_
              obtain ⟨b30, b31, b32, hx32, hF⟩ := ob3_ex hF
              refine kw_aei X (r := .int b30) (As := []) (st := []) E (c_X7_readNumber l D cI cC cR h0 h1 h2 h3 h4 p sv asd tx states len b28 b1 b22 two b22 b30 b31 b32 hx32) vl_X7_131 yv_X7_readNumber ⟨Nat.le_of_ble_eq_true rfl, Nat.le_of_ble_eq_true rfl⟩ ⟨rfl, rfl⟩ ⟨Nat.zero_le _, Nat.zero_le _⟩ 0 rfl rfl rfl rfl (Nat.le_of_ble_eq_true rfl) dX7_readOrder_108 ?_
              refine kw_if_ne X 116 dX7_readOrder_111 (by decide) (fun q33 => ?_) (fun q33 => ?_)
              · replace hF := (if_neg q33).symm.trans hF
                refine kw_aload_n X dX7_readOrder_116 rfl 0 rfl ?_
                refine kw_aload_n X dX7_readOrder_117 rfl 0 rfl ?_
                refine kw_get X inX7 0 rfl rfl 10 (by decide) rfl gw_708 rfl dX7_readOrder_118 ?_
                refine kw_put X E inX7 tyX7 tyX7_ok nmX7 0 rfl rfl 9 (by decide) rfl gw_707 rfl pfd_I (vp_nar_int _) rfl (Nat.le_of_ble_eq_true rfl) (ws' := wX7 cI h0 h1 h2 h3 h4 p sv asd tx states len b31 b1 b22 b32 b32) rfl dX7_readOrder_121 ?_
                refine kw_iconst X dX7_readOrder_124 ci_1 ?_
                obtain ⟨rfl, rfl, rfl, rfl, rfl, rfl⟩ := si6 hF
                exact hret _ _ rfl dX7_readOrder_125
              · replace hF := (if_pos q33).symm.trans hF
                refine kw_iconst X dX7_readOrder_114 ci_0 ?_
                obtain ⟨rfl, rfl, rfl, rfl, rfl, rfl⟩ := si6 hF
                exact hret _ _ rfl dX7_readOrder_115
          replace hF := hx26
          refine kw_icmp_ne X 99 dX7_readOrder_91 (by decide) (fun q24 => ?_) (fun q24 => ?_)
          · replace hF := (if_neg q24).symm.trans hF
            refine kw_bipush X dX7_readOrder_99 cb_64 ?_
            obtain rfl := ti1 hF
            exact J
          · replace hF := (if_pos q24).symm.trans hF
            refine kw_bipush X dX7_readOrder_94 cb_44 ?_
            refine kw_goto X 101 dX7_readOrder_96 (by decide) ?_
            obtain rfl := ti1 hF
            exact J
        · replace hF := (if_pos q23).symm.trans hF
          refine kw_iconst X dX7_readOrder_74 ci_0 ?_
          obtain ⟨rfl, rfl, rfl, rfl, rfl, rfl⟩ := si6 hF
          exact hret _ _ rfl dX7_readOrder_75
      · replace hF := (if_pos q19).symm.trans hF
        refine kw_iconst X dX7_readOrder_65 ci_1 ?_
        obtain ⟨rfl, rfl, rfl, rfl, rfl, rfl⟩ := si6 hF
        exact hret _ _ rfl dX7_readOrder_66
    · replace hF := (if_neg q18).symm.trans hF
      refine kw_aload_n X dX7_readOrder_26 rfl 0 rfl ?_
      refine kw_get X inX7 0 rfl rfl 7 (by decide) rfl gw_705 rfl dX7_readOrder_27 ?_
      refine kw_bipush X dX7_readOrder_30 cb_104 ?_
      refine kw_icmp_eq X 46 dX7_readOrder_32 (by decide) (fun q34 => ?_) (fun q34 => ?_)
      · replace hF := (if_pos q34).symm.trans hF
        refine kw_aload_n X dX7_readOrder_46 rfl 0 rfl ?_
        refine kw_dup X dX7_readOrder_47 rfl ?_
        refine kw_get X inX7 0 rfl rfl 6 (by decide) rfl gw_704 rfl dX7_readOrder_48 ?_
        refine kw_iconst X dX7_readOrder_51 ci_1 ?_
        refine kw_iadd X dX7_readOrder_52 ?_
        refine kw_put X E inX7 tyX7 tyX7_ok nmX7 0 rfl rfl 6 (by decide) rfl gw_704 rfl pfd_I (vp_nar_int _) rfl (Nat.le_of_ble_eq_true rfl) (ws' := wX7 cI h0 h1 h2 h3 h4 p sv asd tx states len (at_ + 1) b1 one two number) rfl dX7_readOrder_53 ?_
        refine kw_aload_n X dX7_readOrder_56 rfl 0 rfl ?_
        refine kw_get X inX7 0 rfl rfl 7 (by decide) rfl gw_705 rfl dX7_readOrder_57 ?_
        refine kw_bipush X dX7_readOrder_60 cb_108 ?_
        refine kw_icmp_ne X 67 dX7_readOrder_62 (by decide) (fun q35 => ?_) (fun q35 => ?_)
        · replace hF := (if_neg q35).symm.trans hF
          refine kw_aload_n X dX7_readOrder_67 rfl 0 rfl ?_
          obtain ⟨b36, b37, b38, hx38, hF⟩ := ob3_ex hF
          refine kw_aei X (r := .int b36) (As := []) (st := []) E (c_X7_readNumber l D cI cC cR h0 h1 h2 h3 h4 p sv asd tx states len (at_ + 1) b1 one two number b36 b37 b38 hx38) vl_X7_131 yv_X7_readNumber ⟨Nat.le_of_ble_eq_true rfl, Nat.le_of_ble_eq_true rfl⟩ ⟨rfl, rfl⟩ ⟨Nat.zero_le _, Nat.zero_le _⟩ 0 rfl rfl rfl rfl (Nat.le_of_ble_eq_true rfl) dX7_readOrder_68 ?_
          refine kw_if_ne X 76 dX7_readOrder_71 (by decide) (fun q39 => ?_) (fun q39 => ?_)
          · replace hF := (if_neg q39).symm.trans hF
            refine kw_aload_n X dX7_readOrder_76 rfl 0 rfl ?_
            refine kw_aload_n X dX7_readOrder_77 rfl 0 rfl ?_
            refine kw_get X inX7 0 rfl rfl 10 (by decide) rfl gw_708 rfl dX7_readOrder_78 ?_
            refine kw_put X E inX7 tyX7 tyX7_ok nmX7 0 rfl rfl 8 (by decide) rfl gw_706 rfl pfd_I (vp_nar_int _) rfl (Nat.le_of_ble_eq_true rfl) (ws' := wX7 cI h0 h1 h2 h3 h4 p sv asd tx states len b37 b1 b38 two b38) rfl dX7_readOrder_81 ?_
            refine kw_aload_n X dX7_readOrder_84 rfl 0 rfl ?_
            refine kw_aload_n X dX7_readOrder_85 rfl 0 rfl ?_
            refine kw_get X inX7 0 rfl rfl 7 (by decide) rfl gw_705 rfl dX7_readOrder_86 ?_
            refine kw_bipush X dX7_readOrder_89 cb_104 ?_
            obtain ⟨x41, hx42, hF⟩ := pl1_ex hF
            have J : KW Γ 0 0 (wX7 cI h0 h1 h2 h3 h4 p sv asd tx states len b37 b1 b38 two b38) [(0, .ref h0)] 101 [.int x41, .ref h0] := by
              obtain ⟨b43, b44, hx44, hF⟩ := ob2_ex hF
              refine kw_aei X (r := .int b43) (As := [.int x41]) (st := []) E (c_X7_passes_ l D cI cC cR h0 h1 h2 h3 h4 p sv asd tx states len b37 b1 b38 two b38 x41 b43 b44 hx44) vl_X7_138 yv_X7_passes_ ⟨Nat.le_of_ble_eq_true rfl, Nat.le_of_ble_eq_true rfl⟩ ⟨rfl, rfl⟩ ⟨Nat.zero_le _, Nat.zero_le _⟩ 0 rfl rfl rfl rfl (Nat.le_of_ble_eq_true rfl) dX7_readOrder_101 ?_
              refine kw_if_eq X 114 dX7_readOrder_104 (by decide) (fun q45 => ?_) (fun q45 => ?_)
              · replace hF := (if_pos q45).symm.trans hF
                refine kw_iconst X dX7_readOrder_114 ci_0 ?_
                obtain ⟨rfl, rfl, rfl, rfl, rfl, rfl⟩ := si6 hF
                exact hret _ _ rfl dX7_readOrder_115
              · replace hF := (if_neg q45).symm.trans hF
                refine kw_aload_n X dX7_readOrder_107 rfl 0 rfl ?_
                obtain ⟨b46, b47, b48, hx48, hF⟩ := ob3_ex hF
                refine kw_aei X (r := .int b46) (As := []) (st := []) E (c_X7_readNumber l D cI cC cR h0 h1 h2 h3 h4 p sv asd tx states len b44 b1 b38 two b38 b46 b47 b48 hx48) vl_X7_131 yv_X7_readNumber ⟨Nat.le_of_ble_eq_true rfl, Nat.le_of_ble_eq_true rfl⟩ ⟨rfl, rfl⟩ ⟨Nat.zero_le _, Nat.zero_le _⟩ 0 rfl rfl rfl rfl (Nat.le_of_ble_eq_true rfl) dX7_readOrder_108 ?_
                refine kw_if_ne X 116 dX7_readOrder_111 (by decide) (fun q49 => ?_) (fun q49 => ?_)
                · replace hF := (if_neg q49).symm.trans hF
                  refine kw_aload_n X dX7_readOrder_116 rfl 0 rfl ?_
                  refine kw_aload_n X dX7_readOrder_117 rfl 0 rfl ?_
                  refine kw_get X inX7 0 rfl rfl 10 (by decide) rfl gw_708 rfl dX7_readOrder_118 ?_
                  refine kw_put X E inX7 tyX7 tyX7_ok nmX7 0 rfl rfl 9 (by decide) rfl gw_707 rfl pfd_I (vp_nar_int _) rfl (Nat.le_of_ble_eq_true rfl) (ws' := wX7 cI h0 h1 h2 h3 h4 p sv asd tx states len b47 b1 b38 b48 b48) rfl dX7_readOrder_121 ?_
                  refine kw_iconst X dX7_readOrder_124 ci_1 ?_
                  obtain ⟨rfl, rfl, rfl, rfl, rfl, rfl⟩ := si6 hF
                  exact hret _ _ rfl dX7_readOrder_125
                · replace hF := (if_pos q49).symm.trans hF
                  refine kw_iconst X dX7_readOrder_114 ci_0 ?_
                  obtain ⟨rfl, rfl, rfl, rfl, rfl, rfl⟩ := si6 hF
                  exact hret _ _ rfl dX7_readOrder_115
            replace hF := hx42
            refine kw_icmp_ne X 99 dX7_readOrder_91 (by decide) (fun q40 => ?_) (fun q40 => ?_)
            · replace hF := (if_neg q40).symm.trans hF
              refine kw_bipush X dX7_readOrder_99 cb_64 ?_
              obtain rfl := ti1 hF
              exact J
            · replace hF := (if_pos q40).symm.trans hF
              refine kw_bipush X dX7_readOrder_94 cb_44 ?_
              refine kw_goto X 101 dX7_readOrder_96 (by decide) ?_
              obtain rfl := ti1 hF
              exact J
          · replace hF := (if_pos q39).symm.trans hF
            refine kw_iconst X dX7_readOrder_74 ci_0 ?_
            obtain ⟨rfl, rfl, rfl, rfl, rfl, rfl⟩ := si6 hF
            exact hret _ _ rfl dX7_readOrder_75
        · replace hF := (if_pos q35).symm.trans hF
          refine kw_iconst X dX7_readOrder_65 ci_1 ?_
          obtain ⟨rfl, rfl, rfl, rfl, rfl, rfl⟩ := si6 hF
          exact hret _ _ rfl dX7_readOrder_66
      · replace hF := (if_neg q34).symm.trans hF
        refine kw_aload_n X dX7_readOrder_35 rfl 0 rfl ?_
        refine kw_get X inX7 0 rfl rfl 7 (by decide) rfl gw_705 rfl dX7_readOrder_36 ?_
        refine kw_bipush X dX7_readOrder_39 cb_108 ?_
        refine kw_icmp_eq X 46 dX7_readOrder_41 (by decide) (fun q50 => ?_) (fun q50 => ?_)
        · replace hF := (if_pos q50).symm.trans hF
          refine kw_aload_n X dX7_readOrder_46 rfl 0 rfl ?_
          refine kw_dup X dX7_readOrder_47 rfl ?_
          refine kw_get X inX7 0 rfl rfl 6 (by decide) rfl gw_704 rfl dX7_readOrder_48 ?_
          refine kw_iconst X dX7_readOrder_51 ci_1 ?_
          refine kw_iadd X dX7_readOrder_52 ?_
          refine kw_put X E inX7 tyX7 tyX7_ok nmX7 0 rfl rfl 6 (by decide) rfl gw_704 rfl pfd_I (vp_nar_int _) rfl (Nat.le_of_ble_eq_true rfl) (ws' := wX7 cI h0 h1 h2 h3 h4 p sv asd tx states len (at_ + 1) b1 one two number) rfl dX7_readOrder_53 ?_
          refine kw_aload_n X dX7_readOrder_56 rfl 0 rfl ?_
          refine kw_get X inX7 0 rfl rfl 7 (by decide) rfl gw_705 rfl dX7_readOrder_57 ?_
          refine kw_bipush X dX7_readOrder_60 cb_108 ?_
          refine kw_icmp_ne X 67 dX7_readOrder_62 (by decide) (fun q51 => ?_) (fun q51 => ?_)
          · replace hF := (if_neg q51).symm.trans hF
            refine kw_aload_n X dX7_readOrder_67 rfl 0 rfl ?_
            obtain ⟨b52, b53, b54, hx54, hF⟩ := ob3_ex hF
            refine kw_aei X (r := .int b52) (As := []) (st := []) E (c_X7_readNumber l D cI cC cR h0 h1 h2 h3 h4 p sv asd tx states len (at_ + 1) b1 one two number b52 b53 b54 hx54) vl_X7_131 yv_X7_readNumber ⟨Nat.le_of_ble_eq_true rfl, Nat.le_of_ble_eq_true rfl⟩ ⟨rfl, rfl⟩ ⟨Nat.zero_le _, Nat.zero_le _⟩ 0 rfl rfl rfl rfl (Nat.le_of_ble_eq_true rfl) dX7_readOrder_68 ?_
            refine kw_if_ne X 76 dX7_readOrder_71 (by decide) (fun q55 => ?_) (fun q55 => ?_)
            · replace hF := (if_neg q55).symm.trans hF
              refine kw_aload_n X dX7_readOrder_76 rfl 0 rfl ?_
              refine kw_aload_n X dX7_readOrder_77 rfl 0 rfl ?_
              refine kw_get X inX7 0 rfl rfl 10 (by decide) rfl gw_708 rfl dX7_readOrder_78 ?_
              refine kw_put X E inX7 tyX7 tyX7_ok nmX7 0 rfl rfl 8 (by decide) rfl gw_706 rfl pfd_I (vp_nar_int _) rfl (Nat.le_of_ble_eq_true rfl) (ws' := wX7 cI h0 h1 h2 h3 h4 p sv asd tx states len b53 b1 b54 two b54) rfl dX7_readOrder_81 ?_
              refine kw_aload_n X dX7_readOrder_84 rfl 0 rfl ?_
              refine kw_aload_n X dX7_readOrder_85 rfl 0 rfl ?_
              refine kw_get X inX7 0 rfl rfl 7 (by decide) rfl gw_705 rfl dX7_readOrder_86 ?_
              refine kw_bipush X dX7_readOrder_89 cb_104 ?_
              obtain ⟨x57, hx58, hF⟩ := pl1_ex hF
              have J : KW Γ 0 0 (wX7 cI h0 h1 h2 h3 h4 p sv asd tx states len b53 b1 b54 two b54) [(0, .ref h0)] 101 [.int x57, .ref h0] := by
                obtain ⟨b59, b60, hx60, hF⟩ := ob2_ex hF
                refine kw_aei X (r := .int b59) (As := [.int x57]) (st := []) E (c_X7_passes_ l D cI cC cR h0 h1 h2 h3 h4 p sv asd tx states len b53 b1 b54 two b54 x57 b59 b60 hx60) vl_X7_138 yv_X7_passes_ ⟨Nat.le_of_ble_eq_true rfl, Nat.le_of_ble_eq_true rfl⟩ ⟨rfl, rfl⟩ ⟨Nat.zero_le _, Nat.zero_le _⟩ 0 rfl rfl rfl rfl (Nat.le_of_ble_eq_true rfl) dX7_readOrder_101 ?_
                refine kw_if_eq X 114 dX7_readOrder_104 (by decide) (fun q61 => ?_) (fun q61 => ?_)
                · replace hF := (if_pos q61).symm.trans hF
                  refine kw_iconst X dX7_readOrder_114 ci_0 ?_
                  obtain ⟨rfl, rfl, rfl, rfl, rfl, rfl⟩ := si6 hF
                  exact hret _ _ rfl dX7_readOrder_115
                · replace hF := (if_neg q61).symm.trans hF
                  refine kw_aload_n X dX7_readOrder_107 rfl 0 rfl ?_
                  obtain ⟨b62, b63, b64, hx64, hF⟩ := ob3_ex hF
                  refine kw_aei X (r := .int b62) (As := []) (st := []) E (c_X7_readNumber l D cI cC cR h0 h1 h2 h3 h4 p sv asd tx states len b60 b1 b54 two b54 b62 b63 b64 hx64) vl_X7_131 yv_X7_readNumber ⟨Nat.le_of_ble_eq_true rfl, Nat.le_of_ble_eq_true rfl⟩ ⟨rfl, rfl⟩ ⟨Nat.zero_le _, Nat.zero_le _⟩ 0 rfl rfl rfl rfl (Nat.le_of_ble_eq_true rfl) dX7_readOrder_108 ?_
                  refine kw_if_ne X 116 dX7_readOrder_111 (by decide) (fun q65 => ?_) (fun q65 => ?_)
                  · replace hF := (if_neg q65).symm.trans hF
                    refine kw_aload_n X dX7_readOrder_116 rfl 0 rfl ?_
                    refine kw_aload_n X dX7_readOrder_117 rfl 0 rfl ?_
                    refine kw_get X inX7 0 rfl rfl 10 (by decide) rfl gw_708 rfl dX7_readOrder_118 ?_
                    refine kw_put X E inX7 tyX7 tyX7_ok nmX7 0 rfl rfl 9 (by decide) rfl gw_707 rfl pfd_I (vp_nar_int _) rfl (Nat.le_of_ble_eq_true rfl) (ws' := wX7 cI h0 h1 h2 h3 h4 p sv asd tx states len b63 b1 b54 b64 b64) rfl dX7_readOrder_121 ?_
                    refine kw_iconst X dX7_readOrder_124 ci_1 ?_
                    obtain ⟨rfl, rfl, rfl, rfl, rfl, rfl⟩ := si6 hF
                    exact hret _ _ rfl dX7_readOrder_125
                  · replace hF := (if_pos q65).symm.trans hF
                    refine kw_iconst X dX7_readOrder_114 ci_0 ?_
                    obtain ⟨rfl, rfl, rfl, rfl, rfl, rfl⟩ := si6 hF
                    exact hret _ _ rfl dX7_readOrder_115
              replace hF := hx58
              refine kw_icmp_ne X 99 dX7_readOrder_91 (by decide) (fun q56 => ?_) (fun q56 => ?_)
              · replace hF := (if_neg q56).symm.trans hF
                refine kw_bipush X dX7_readOrder_99 cb_64 ?_
                obtain rfl := ti1 hF
                exact J
              · replace hF := (if_pos q56).symm.trans hF
                refine kw_bipush X dX7_readOrder_94 cb_44 ?_
                refine kw_goto X 101 dX7_readOrder_96 (by decide) ?_
                obtain rfl := ti1 hF
                exact J
            · replace hF := (if_pos q55).symm.trans hF
              refine kw_iconst X dX7_readOrder_74 ci_0 ?_
              obtain ⟨rfl, rfl, rfl, rfl, rfl, rfl⟩ := si6 hF
              exact hret _ _ rfl dX7_readOrder_75
          · replace hF := (if_pos q51).symm.trans hF
            refine kw_iconst X dX7_readOrder_65 ci_1 ?_
            obtain ⟨rfl, rfl, rfl, rfl, rfl, rfl⟩ := si6 hF
            exact hret _ _ rfl dX7_readOrder_66
        · replace hF := (if_neg q50).symm.trans hF
          refine kw_iconst X dX7_readOrder_44 ci_0 ?_
          obtain ⟨rfl, rfl, rfl, rfl, rfl, rfl⟩ := si6 hF
          exact hret _ _ rfl dX7_readOrder_45
-- X7_faultOf
def f_X7_faultOf_L10 (tx : Nat → Int32) (len : Int32) : Nat → Int32 → Int32 → Int32 → Int32 → Int32 → Int32 → Option (Int32 × Int32 × Int32 × Int32 × Int32 × Int32)
  | 0, _, _, _, _, _, _ => none
  | F + 1, v1_41, w42, w43, w44, w45, w46 => (if v1_41 = 0 then (some (v1_41, w42, w43, w44, w45, w46)) else (ob2 (f_X7_passes_ tx len w42 59) (fun (b48 : Int32) (b49 : Int32) => (if b48 = 0 then (some (v1_41, b49, w43, w44, w45, w46)) else (ob6 (f_X7_readOrder tx len b49 w44 w45 w46) (fun (b51 : Int32) (b52 : Int32) (b53 : Int32) (b54 : Int32) (b55 : Int32) (b56 : Int32) => (f_X7_faultOf_L10 tx len F b51 b52 b53 b54 b55 b56)))))))
def f_X7_faultOf (Z : Nat) (tx : Nat → Int32) (len : Int32) (one : Int32) (two : Int32) (number : Int32) : Option (Int32 × Int32 × Int32 × Int32 × Int32 × Int32) :=
  (ob6 (f_X7_readOrder tx len 0 one two number) (fun (b1 : Int32) (b2 : Int32) (b3 : Int32) (b4 : Int32) (b5 : Int32) (b6 : Int32) => (ob6 (f_X7_faultOf_L10 tx len Z b1 b2 b3 b4 b5 b6) (fun (e33 : Int32) (e34 : Int32) (e35 : Int32) (e36 : Int32) (e37 : Int32) (e38 : Int32) => (if e33 = 0 then (some (e34, e34, e35, e36, e37, e38)) else (if e34 = len then (some ((-1), e34, e35, e36, e37, e38)) else (some (e34, e34, e35, e36, e37, e38))))))))
abbrev rm_X7_faultOf : Room := { frames := 3, cells := 0, slots := 0, locals := 62 }
set_option maxHeartbeats 4000000 in
set_option maxRecDepth 100000 in
theorem c_X7_faultOf (l : Launch) (D : va_G) (cI cC cR : ClassId) (h0 h1 h2 h3 h4 : Nat) (p : Nat → Int32) (sv : Nat → Int32) (asd : Nat → Int32) (tx : Nat → Int32) (states : Int32) (len : Int32) (at_ : Int32) (letter : Int32) (one : Int32) (two : Int32) (number : Int32) (Z : Nat) (r : Int32) (at_' : Int32) (letter' : Int32) (one' : Int32) (two' : Int32) (number' : Int32) (hF : f_X7_faultOf Z tx len one two number = some (r, at_', letter', one', two', number')) : MEq l yX7_faultOf cX7_faultOf 2 (some .int) rm_X7_faultOf D (TY cI cC cR) [.ref h0] (wX7 cI h0 h1 h2 h3 h4 p sv asd tx states len at_ letter one two number) (wX7 cI h0 h1 h2 h3 h4 p sv asd tx states len at_' letter' one' two' number') (some (.int r)) := by
  refine me_e pn_X7 (Nat.le_of_ble_eq_true rfl) rfl (fun Γ X E hret => ?_)
  unfold f_X7_faultOf at hF
  refine kw_aload_n X dX7_faultOf_0 rfl 0 rfl ?_
  refine kw_iconst X dX7_faultOf_1 ci_0 ?_
  refine kw_put X E inX7 tyX7 tyX7_ok nmX7 0 rfl rfl 6 (by decide) rfl gw_704 rfl pfd_I (vp_nar_int _) rfl (Nat.le_of_ble_eq_true rfl) (ws' := wX7 cI h0 h1 h2 h3 h4 p sv asd tx states len 0 letter one two number) rfl dX7_faultOf_2 ?_
  refine kw_aload_n X dX7_faultOf_5 rfl 0 rfl ?_
  obtain ⟨b1, b2, b3, b4, b5, b6, hx6, hF⟩ := ob6_ex hF
  refine kw_aei X (r := .int b1) (As := []) (st := []) E (c_X7_readOrder l D cI cC cR h0 h1 h2 h3 h4 p sv asd tx states len 0 letter one two number b1 b2 b3 b4 b5 b6 hx6) vl_X7_143 yv_X7_readOrder ⟨Nat.le_of_ble_eq_true rfl, Nat.le_of_ble_eq_true rfl⟩ ⟨rfl, rfl⟩ ⟨Nat.zero_le _, Nat.zero_le _⟩ 0 rfl rfl rfl rfl (Nat.le_of_ble_eq_true rfl) dX7_faultOf_6 ?_
  refine kw_istore_n (lo' := [(0, .ref h0), (1, .int b1)]) X dX7_faultOf_9 rfl (by decide) [1, 0] rfl ?_
  obtain ⟨e33, e34, e35, e36, e37, e38, hx, hF⟩ := ob6_ex hF
  have J : KW Γ 0 0 (wX7 cI h0 h1 h2 h3 h4 p sv asd tx states len e34 e35 e36 e37 e38) [(0, .ref h0), (1, .int e33)] 31 [] := by
    refine kw_iload_n X dX7_faultOf_31 rfl 1 rfl ?_
    refine kw_if_eq X 50 dX7_faultOf_32 (by decide) (fun q39 => ?_) (fun q39 => ?_)
    · replace hF := (if_pos q39).symm.trans hF
      refine kw_aload_n X dX7_faultOf_50 rfl 0 rfl ?_
      refine kw_get X inX7 0 rfl rfl 6 (by decide) rfl gw_704 rfl dX7_faultOf_51 ?_
      obtain ⟨rfl, rfl, rfl, rfl, rfl, rfl⟩ := si6 hF
      exact hret _ _ (vp_nar_int _) dX7_faultOf_54
    · replace hF := (if_neg q39).symm.trans hF
      refine kw_aload_n X dX7_faultOf_35 rfl 0 rfl ?_
      refine kw_get X inX7 0 rfl rfl 6 (by decide) rfl gw_704 rfl dX7_faultOf_36 ?_
      refine kw_aload_n X dX7_faultOf_39 rfl 0 rfl ?_
      refine kw_get X inX7 0 rfl rfl 5 (by decide) rfl gw_703 rfl dX7_faultOf_40 ?_
      refine kw_icmp_ne X 50 dX7_faultOf_43 (by decide) (fun q40 => ?_) (fun q40 => ?_)
      · replace hF := (if_neg q40).symm.trans hF
        refine kw_aload_n X dX7_faultOf_50 rfl 0 rfl ?_
        refine kw_get X inX7 0 rfl rfl 6 (by decide) rfl gw_704 rfl dX7_faultOf_51 ?_
        obtain ⟨rfl, rfl, rfl, rfl, rfl, rfl⟩ := si6 hF
        exact hret _ _ (vp_nar_int _) dX7_faultOf_54
      · replace hF := (if_pos q40).symm.trans hF
        refine kw_iconst X dX7_faultOf_46 ci_m1 ?_
        refine kw_goto X 54 dX7_faultOf_47 (by decide) ?_
        obtain ⟨rfl, rfl, rfl, rfl, rfl, rfl⟩ := si6 hF
        exact hret _ _ (vp_nar_int _) dX7_faultOf_54
  have hL10 : ∀ (F : Nat) (v1_41 : Int32) (w42 : Int32) (w43 : Int32) (w44 : Int32) (w45 : Int32) (w46 : Int32), f_X7_faultOf_L10 tx len F v1_41 w42 w43 w44 w45 w46 = some (e33, e34, e35, e36, e37, e38) → KW Γ 0 0 (wX7 cI h0 h1 h2 h3 h4 p sv asd tx states len w42 w43 w44 w45 w46) [(0, .ref h0), (1, .int v1_41)] 10 [] := by
    intro F
    induction F with
    | zero => intro v1_41 w42 w43 w44 w45 w46 hF; exact none_some hF
    | succ F ih10 =>
      intro v1_41 w42 w43 w44 w45 w46 hF
      rw [f_X7_faultOf_L10] at hF
      refine kw_iload_n X dX7_faultOf_10 rfl 1 rfl ?_
      refine kw_if_eq X 31 dX7_faultOf_11 (by decide) (fun q47 => ?_) (fun q47 => ?_)
      · replace hF := (if_pos q47).symm.trans hF
        obtain ⟨rfl, rfl, rfl, rfl, rfl, rfl⟩ := si6 hF
        exact J
      · replace hF := (if_neg q47).symm.trans hF
        refine kw_aload_n X dX7_faultOf_14 rfl 0 rfl ?_
        refine kw_bipush X dX7_faultOf_15 cb_59 ?_
        obtain ⟨b48, b49, hx49, hF⟩ := ob2_ex hF
        refine kw_aei X (r := .int b48) (As := [.int 59]) (st := []) E (c_X7_passes_ l D cI cC cR h0 h1 h2 h3 h4 p sv asd tx states len w42 w43 w44 w45 w46 59 b48 b49 hx49) vl_X7_138 yv_X7_passes_ ⟨Nat.le_of_ble_eq_true rfl, Nat.le_of_ble_eq_true rfl⟩ ⟨rfl, rfl⟩ ⟨Nat.zero_le _, Nat.zero_le _⟩ 0 rfl rfl rfl rfl (Nat.le_of_ble_eq_true rfl) dX7_faultOf_17 ?_
        refine kw_if_eq X 31 dX7_faultOf_20 (by decide) (fun q50 => ?_) (fun q50 => ?_)
        · replace hF := (if_pos q50).symm.trans hF
          obtain ⟨rfl, rfl, rfl, rfl, rfl, rfl⟩ := si6 hF
          exact J
        · replace hF := (if_neg q50).symm.trans hF
          refine kw_aload_n X dX7_faultOf_23 rfl 0 rfl ?_
          obtain ⟨b51, b52, b53, b54, b55, b56, hx56, hF⟩ := ob6_ex hF
          refine kw_aei X (r := .int b51) (As := []) (st := []) E (c_X7_readOrder l D cI cC cR h0 h1 h2 h3 h4 p sv asd tx states len b49 w43 w44 w45 w46 b51 b52 b53 b54 b55 b56 hx56) vl_X7_143 yv_X7_readOrder ⟨Nat.le_of_ble_eq_true rfl, Nat.le_of_ble_eq_true rfl⟩ ⟨rfl, rfl⟩ ⟨Nat.zero_le _, Nat.zero_le _⟩ 0 rfl rfl rfl rfl (Nat.le_of_ble_eq_true rfl) dX7_faultOf_24 ?_
          refine kw_istore_n (lo' := [(0, .ref h0), (1, .int b51)]) X dX7_faultOf_27 rfl (by decide) [1, 0] rfl ?_
          refine kw_goto X 10 dX7_faultOf_28 (by decide) ?_
          exact ih10 _ _ _ _ _ _ hF
  exact hL10 Z _ _ _ _ _ _ hx
-- X7_does
def f_X7_does (Z : Nat) (p : Nat → Int32) (letter : Int32) (one : Int32) (two : Int32) : Option (Int32 × (Nat → Int32)) :=
  (ob1 (if letter = 98 then (ob1 (f_X7_whyBorrow Z p one two) (fun (b45 : Int32) => (some b45))) else (if letter = 114 then (ob1 (f_X7_whyBring Z p one two) (fun (b44 : Int32) => (some b44))) else (if letter = 104 then (ob1 (f_X7_whyHour p one two) (fun (b43 : Int32) => (some b43))) else (some 0)))) (fun (x10 : Int32) => (if x10 < 0 then (some (0, p)) else (ob2 (if letter = 98 then (ob2 (f_X7_borrows Z p one two) (fun (b39 : Int32) (m40 : Nat → Int32) => (some (b39, m40)))) else (if letter = 114 then (ob2 (f_X7_brings p one two) (fun (b37 : Int32) (m38 : Nat → Int32) => (some (b37, m38)))) else (if letter = 104 then (ob2 (f_X7_passes Z p one two) (fun (b35 : Int32) (m36 : Nat → Int32) => (some (b35, m36)))) else (ob2 (f_X7_levels Z p) (fun (b33 : Int32) (m34 : Nat → Int32) => (some (b33, m34))))))) (fun (x28 : Int32) (w29 : Nat → Int32) => (some (1, w29)))))))
abbrev rm_X7_does : Room := { frames := 4, cells := 0, slots := 0, locals := 97 }
set_option maxHeartbeats 4000000 in
set_option maxRecDepth 100000 in
theorem c_X7_does (l : Launch) (D : va_G) (cI cC cR : ClassId) (h0 h1 h2 h3 h4 : Nat) (p : Nat → Int32) (sv : Nat → Int32) (asd : Nat → Int32) (tx : Nat → Int32) (states : Int32) (len : Int32) (at_ : Int32) (letter : Int32) (one : Int32) (two : Int32) (number : Int32) (Z : Nat) (r : Int32) (p' : Nat → Int32) (hF : f_X7_does Z p letter one two = some (r, p')) : MEq l yX7_does cX7_does 3 (some .boolean) rm_X7_does D (TY cI cC cR) [.ref h0] (wX7 cI h0 h1 h2 h3 h4 p sv asd tx states len at_ letter one two number) (wX7 cI h0 h1 h2 h3 h4 p' sv asd tx states len at_ letter one two number) (some (.int r)) := by
  refine me_e pn_X7 (Nat.le_of_ble_eq_true rfl) rfl (fun Γ X E hret => ?_)
  unfold f_X7_does at hF
  refine kw_aload_n X dX7_does_0 rfl 0 rfl ?_
  refine kw_get X inX7 0 rfl rfl 7 (by decide) rfl gw_705 rfl dX7_does_1 ?_
  refine kw_bipush X dX7_does_4 cb_98 ?_
  obtain ⟨x10, hx11, hF⟩ := ob1_ex hF
  have J : KW Γ 0 0 (wX7 cI h0 h1 h2 h3 h4 p sv asd tx states len at_ letter one two number) [(0, .ref h0)] 73 [.int x10] := by
    refine kw_istore_n (lo' := [(0, .ref h0), (1, .int x10)]) X dX7_does_73 rfl (by decide) [1, 0] rfl ?_
    refine kw_iload_n X dX7_does_74 rfl 1 rfl ?_
    refine kw_if_ge X 80 dX7_does_75 (by decide) (fun q12 => ?_) (fun q12 => ?_)
    · replace hF := (if_neg q12).symm.trans hF
      refine kw_aload_n X dX7_does_80 rfl 0 rfl ?_
      refine kw_get X inX7 0 rfl rfl 7 (by decide) rfl gw_705 rfl dX7_does_81 ?_
      refine kw_bipush X dX7_does_84 cb_98 ?_
      obtain ⟨x28, w29, hx30, hF⟩ := ob2_ex hF
      have J : KW Γ 0 0 (wX7 cI h0 h1 h2 h3 h4 w29 sv asd tx states len at_ letter one two number) [] 156 [.int x28] := by
        refine kw_istore_n (lo' := [(2, .int x28)]) X dX7_does_156 rfl (by decide) [0] rfl ?_
        refine kw_iconst X dX7_does_157 ci_1 ?_
        obtain ⟨rfl, rfl⟩ := si2 hF
        exact hret _ _ rfl dX7_does_158
      replace hF := hx30
      refine kw_icmp_ne X 104 dX7_does_86 (by decide) (fun q13 => ?_) (fun q13 => ?_)
      · replace hF := (if_neg q13).symm.trans hF
        refine kw_aload_n X dX7_does_104 rfl 0 rfl ?_
        refine kw_get X inX7 0 rfl rfl 7 (by decide) rfl gw_705 rfl dX7_does_105 ?_
        refine kw_bipush X dX7_does_108 cb_114 ?_
        refine kw_icmp_ne X 128 dX7_does_110 (by decide) (fun q31 => ?_) (fun q31 => ?_)
        · replace hF := (if_neg q31).symm.trans hF
          refine kw_aload_n X dX7_does_128 rfl 0 rfl ?_
          refine kw_get X inX7 0 rfl rfl 7 (by decide) rfl gw_705 rfl dX7_does_129 ?_
          refine kw_bipush X dX7_does_132 cb_104 ?_
          refine kw_icmp_ne X 152 dX7_does_134 (by decide) (fun q32 => ?_) (fun q32 => ?_)
          · replace hF := (if_neg q32).symm.trans hF
            refine kw_aload_n X dX7_does_152 rfl 0 rfl ?_
            obtain ⟨b33, m34, hx34, hF⟩ := ob2_ex hF
            refine kw_aei X (r := .int b33) (As := []) (st := []) E (c_X7_levels l D cI cC cR h0 h1 h2 h3 h4 p sv asd tx states len at_ letter one two number Z b33 m34 hx34) vl_X7_112 yv_X7_levels ⟨Nat.le_of_ble_eq_true rfl, Nat.le_of_ble_eq_true rfl⟩ ⟨rfl, rfl⟩ ⟨Nat.zero_le _, Nat.zero_le _⟩ 0 rfl rfl rfl rfl (Nat.le_of_ble_eq_true rfl) dX7_does_153 ?_
            refine kw_loc (lo' := []) [] rfl ?_
            obtain ⟨rfl, rfl⟩ := si2 hF
            exact J
          · replace hF := (if_pos q32).symm.trans hF
            refine kw_aload_n X dX7_does_137 rfl 0 rfl ?_
            refine kw_aload_n X dX7_does_138 rfl 0 rfl ?_
            refine kw_get X inX7 0 rfl rfl 8 (by decide) rfl gw_706 rfl dX7_does_139 ?_
            refine kw_aload_n X dX7_does_142 rfl 0 rfl ?_
            refine kw_get X inX7 0 rfl rfl 9 (by decide) rfl gw_707 rfl dX7_does_143 ?_
            obtain ⟨b35, m36, hx36, hF⟩ := ob2_ex hF
            refine kw_aei X (r := .int b35) (As := [.int one, .int two]) (st := []) E (c_X7_passes l D cI cC cR h0 h1 h2 h3 h4 p sv asd tx states len at_ letter one two number one two Z b35 m36 hx36) vl_X7_97 yv_X7_passes ⟨Nat.le_of_ble_eq_true rfl, Nat.le_of_ble_eq_true rfl⟩ ⟨rfl, rfl⟩ ⟨Nat.zero_le _, Nat.zero_le _⟩ 0 rfl rfl rfl rfl (Nat.le_of_ble_eq_true rfl) dX7_does_146 ?_
            refine kw_goto X 156 dX7_does_149 (by decide) ?_
            refine kw_loc (lo' := []) [] rfl ?_
            obtain ⟨rfl, rfl⟩ := si2 hF
            exact J
        · replace hF := (if_pos q31).symm.trans hF
          refine kw_aload_n X dX7_does_113 rfl 0 rfl ?_
          refine kw_aload_n X dX7_does_114 rfl 0 rfl ?_
          refine kw_get X inX7 0 rfl rfl 8 (by decide) rfl gw_706 rfl dX7_does_115 ?_
          refine kw_aload_n X dX7_does_118 rfl 0 rfl ?_
          refine kw_get X inX7 0 rfl rfl 9 (by decide) rfl gw_707 rfl dX7_does_119 ?_
          obtain ⟨b37, m38, hx38, hF⟩ := ob2_ex hF
          refine kw_aei X (r := .int b37) (As := [.int one, .int two]) (st := []) E (c_X7_brings l D cI cC cR h0 h1 h2 h3 h4 p sv asd tx states len at_ letter one two number one two b37 m38 hx38) vl_X7_87 yv_X7_brings ⟨Nat.le_of_ble_eq_true rfl, Nat.le_of_ble_eq_true rfl⟩ ⟨rfl, rfl⟩ ⟨Nat.zero_le _, Nat.zero_le _⟩ 0 rfl rfl rfl rfl (Nat.le_of_ble_eq_true rfl) dX7_does_122 ?_
          refine kw_goto X 156 dX7_does_125 (by decide) ?_
          refine kw_loc (lo' := []) [] rfl ?_
          obtain ⟨rfl, rfl⟩ := si2 hF
          exact J
      · replace hF := (if_pos q13).symm.trans hF
        refine kw_aload_n X dX7_does_89 rfl 0 rfl ?_
        refine kw_aload_n X dX7_does_90 rfl 0 rfl ?_
        refine kw_get X inX7 0 rfl rfl 8 (by decide) rfl gw_706 rfl dX7_does_91 ?_
        refine kw_aload_n X dX7_does_94 rfl 0 rfl ?_
        refine kw_get X inX7 0 rfl rfl 9 (by decide) rfl gw_707 rfl dX7_does_95 ?_
        obtain ⟨b39, m40, hx40, hF⟩ := ob2_ex hF
        refine kw_aei X (r := .int b39) (As := [.int one, .int two]) (st := []) E (c_X7_borrows l D cI cC cR h0 h1 h2 h3 h4 p sv asd tx states len at_ letter one two number one two Z b39 m40 hx40) vl_X7_77 yv_X7_borrows ⟨Nat.le_of_ble_eq_true rfl, Nat.le_of_ble_eq_true rfl⟩ ⟨rfl, rfl⟩ ⟨Nat.zero_le _, Nat.zero_le _⟩ 0 rfl rfl rfl rfl (Nat.le_of_ble_eq_true rfl) dX7_does_98 ?_
        refine kw_goto X 156 dX7_does_101 (by decide) ?_
        refine kw_loc (lo' := []) [] rfl ?_
        obtain ⟨rfl, rfl⟩ := si2 hF
        exact J
    · replace hF := (if_pos q12).symm.trans hF
      refine kw_iconst X dX7_does_78 ci_0 ?_
      obtain ⟨rfl, rfl⟩ := si2 hF
      exact hret _ _ rfl dX7_does_79
  replace hF := hx11
  refine kw_icmp_ne X 24 dX7_does_6 (by decide) (fun q1 => ?_) (fun q1 => ?_)
  · replace hF := (if_neg q1).symm.trans hF
    refine kw_aload_n X dX7_does_24 rfl 0 rfl ?_
    refine kw_get X inX7 0 rfl rfl 7 (by decide) rfl gw_705 rfl dX7_does_25 ?_
    refine kw_bipush X dX7_does_28 cb_114 ?_
    refine kw_icmp_ne X 48 dX7_does_30 (by decide) (fun q41 => ?_) (fun q41 => ?_)
    · replace hF := (if_neg q41).symm.trans hF
      refine kw_aload_n X dX7_does_48 rfl 0 rfl ?_
      refine kw_get X inX7 0 rfl rfl 7 (by decide) rfl gw_705 rfl dX7_does_49 ?_
      refine kw_bipush X dX7_does_52 cb_104 ?_
      refine kw_icmp_ne X 72 dX7_does_54 (by decide) (fun q42 => ?_) (fun q42 => ?_)
      · replace hF := (if_neg q42).symm.trans hF
        refine kw_iconst X dX7_does_72 ci_0 ?_
        obtain rfl := si1 hF
        exact J
      · replace hF := (if_pos q42).symm.trans hF
        refine kw_aload_n X dX7_does_57 rfl 0 rfl ?_
        refine kw_aload_n X dX7_does_58 rfl 0 rfl ?_
        refine kw_get X inX7 0 rfl rfl 8 (by decide) rfl gw_706 rfl dX7_does_59 ?_
        refine kw_aload_n X dX7_does_62 rfl 0 rfl ?_
        refine kw_get X inX7 0 rfl rfl 9 (by decide) rfl gw_707 rfl dX7_does_63 ?_
        obtain ⟨b43, hx43, hF⟩ := ob1_ex hF
        refine kw_ap X (r := .int b43) (As := [.int one, .int two]) (st := []) (c_X7_whyHour l D cI cC cR h0 h1 h2 h3 h4 p sv asd tx states len at_ letter one two number one two b43 hx43) vl_X7_94 yv_X7_whyHour ⟨Nat.le_of_ble_eq_true rfl, Nat.le_of_ble_eq_true rfl⟩ ⟨rfl, rfl⟩ ⟨Nat.zero_le _, Nat.zero_le _⟩ 0 rfl rfl rfl rfl (Nat.le_of_ble_eq_true rfl) dX7_does_66 ?_
        refine kw_goto X 73 dX7_does_69 (by decide) ?_
        obtain rfl := si1 hF
        exact J
    · replace hF := (if_pos q41).symm.trans hF
      refine kw_aload_n X dX7_does_33 rfl 0 rfl ?_
      refine kw_aload_n X dX7_does_34 rfl 0 rfl ?_
      refine kw_get X inX7 0 rfl rfl 8 (by decide) rfl gw_706 rfl dX7_does_35 ?_
      refine kw_aload_n X dX7_does_38 rfl 0 rfl ?_
      refine kw_get X inX7 0 rfl rfl 9 (by decide) rfl gw_707 rfl dX7_does_39 ?_
      obtain ⟨b44, hx44, hF⟩ := ob1_ex hF
      refine kw_ap X (r := .int b44) (As := [.int one, .int two]) (st := []) (c_X7_whyBring l D cI cC cR h0 h1 h2 h3 h4 p sv asd tx states len at_ letter one two number one two Z b44 hx44) vl_X7_84 yv_X7_whyBring ⟨Nat.le_of_ble_eq_true rfl, Nat.le_of_ble_eq_true rfl⟩ ⟨rfl, rfl⟩ ⟨Nat.zero_le _, Nat.zero_le _⟩ 0 rfl rfl rfl rfl (Nat.le_of_ble_eq_true rfl) dX7_does_42 ?_
      refine kw_goto X 73 dX7_does_45 (by decide) ?_
      obtain rfl := si1 hF
      exact J
  · replace hF := (if_pos q1).symm.trans hF
    refine kw_aload_n X dX7_does_9 rfl 0 rfl ?_
    refine kw_aload_n X dX7_does_10 rfl 0 rfl ?_
    refine kw_get X inX7 0 rfl rfl 8 (by decide) rfl gw_706 rfl dX7_does_11 ?_
    refine kw_aload_n X dX7_does_14 rfl 0 rfl ?_
    refine kw_get X inX7 0 rfl rfl 9 (by decide) rfl gw_707 rfl dX7_does_15 ?_
    obtain ⟨b45, hx45, hF⟩ := ob1_ex hF
    refine kw_ap X (r := .int b45) (As := [.int one, .int two]) (st := []) (c_X7_whyBorrow l D cI cC cR h0 h1 h2 h3 h4 p sv asd tx states len at_ letter one two number one two Z b45 hx45) vl_X7_74 yv_X7_whyBorrow ⟨Nat.le_of_ble_eq_true rfl, Nat.le_of_ble_eq_true rfl⟩ ⟨rfl, rfl⟩ ⟨Nat.zero_le _, Nat.zero_le _⟩ 0 rfl rfl rfl rfl (Nat.le_of_ble_eq_true rfl) dX7_does_18 ?_
    refine kw_goto X 73 dX7_does_21 (by decide) ?_
    obtain rfl := si1 hF
    exact J
-- X7_carryOut
def f_X7_carryOut_L46 (Z : Nat) (tx : Nat → Int32) (len : Int32) : Nat → Int32 → Int32 → Int32 → Int32 → Int32 → Int32 → Int32 → (Nat → Int32) → Option (Int32 × Int32 × Int32 × Int32 × Int32 × Int32 × (Nat → Int32))
  | 0, _, _, _, _, _, _, _, _ => none
  | F + 1, v2_116, v3_117, w118, w119, w120, w121, w122, w123 => (if v3_117 = 0 then (some (v2_116, w118, w119, w120, w121, w122, w123)) else (ob2 (f_X7_passes_ tx len w118 59) (fun (b125 : Int32) (b126 : Int32) => (ob7 (if b125 = 0 then (some (0, b126, w119, w120, w121, w122, w123)) else (ob6 (f_X7_readOrder tx len b126 w120 w121 w122) (fun (b152 : Int32) (b153 : Int32) (b154 : Int32) (b155 : Int32) (b156 : Int32) (b157 : Int32) => (if b152 = 0 then (some (0, b153, b154, b155, b156, b157, w123)) else (ob2 (f_X7_does Z w123 b154 b155 b156) (fun (b159 : Int32) (m160 : Nat → Int32) => (if b159 = 0 then (some (0, b153, b154, b155, b156, b157, m160)) else (some (1, b153, b154, b155, b156, b157, m160))))))))) (fun (x144 : Int32) (w145 : Int32) (w146 : Int32) (w147 : Int32) (w148 : Int32) (w149 : Int32) (w150 : Nat → Int32) => (f_X7_carryOut_L46 Z tx len F (v2_116 + 1) x144 w145 w146 w147 w148 w149 w150))))))
def f_X7_carryOut (Z : Nat) (p : Nat → Int32) (sv : Nat → Int32) (tx : Nat → Int32) (states : Int32) (len : Int32) (one : Int32) (two : Int32) (number : Int32) : Option (Int32 × (Nat → Int32) × (Nat → Int32) × Int32 × Int32 × Int32 × Int32 × Int32 × Int32 × Int32) :=
  (ob6 (f_X7_faultOf Z tx len one two number) (fun (b1 : Int32) (b2 : Int32) (b3 : Int32) (b4 : Int32) (b5 : Int32) (b6 : Int32) => (if b1 < 0 then (ob2 (f_X7_save Z p sv states) (fun (m8 : Nat → Int32) (b9 : Int32) => (ob6 (f_X7_readOrder tx len 0 b4 b5 b6) (fun (b10 : Int32) (b11 : Int32) (b12 : Int32) (b13 : Int32) (b14 : Int32) (b15 : Int32) => (ob2 (if b10 = 0 then (some (0, p)) else (ob2 (f_X7_does Z p b12 b13 b14) (fun (b162 : Int32) (m163 : Nat → Int32) => (if b162 = 0 then (some (0, m163)) else (some (1, m163)))))) (fun (x22 : Int32) (w23 : Nat → Int32) => (ob7 (f_X7_carryOut_L46 Z tx len Z 0 x22 b11 b12 b13 b14 b15 w23) (fun (e109 : Int32) (e110 : Int32) (e111 : Int32) (e112 : Int32) (e113 : Int32) (e114 : Int32) (w115 : Nat → Int32) => (some (e109, w115, m8, b9, 0, e110, e111, e112, e113, e114)))))))))) else (some (((-1000) - b1), p, sv, states, len, b2, b3, b4, b5, b6)))))
abbrev rm_X7_carryOut : Room := { frames := 5, cells := 0, slots := 0, locals := 119 }
set_option maxHeartbeats 4000000 in
set_option maxRecDepth 100000 in
theorem c_X7_carryOut (l : Launch) (D : va_G) (cI cC cR : ClassId) (h0 h1 h2 h3 h4 : Nat) (p : Nat → Int32) (sv : Nat → Int32) (asd : Nat → Int32) (tx : Nat → Int32) (states : Int32) (len : Int32) (at_ : Int32) (letter : Int32) (one : Int32) (two : Int32) (number : Int32) (Z : Nat) (r : Int32) (p' : Nat → Int32) (sv' : Nat → Int32) (states' : Int32) (len' : Int32) (at_' : Int32) (letter' : Int32) (one' : Int32) (two' : Int32) (number' : Int32) (hF : f_X7_carryOut Z p sv tx states len one two number = some (r, p', sv', states', len', at_', letter', one', two', number')) : MEq l yX7_carryOut cX7_carryOut 4 (some .int) rm_X7_carryOut D (TY cI cC cR) [.ref h0] (wX7 cI h0 h1 h2 h3 h4 p sv asd tx states len at_ letter one two number) (wX7 cI h0 h1 h2 h3 h4 p' sv' asd tx states' len' at_' letter' one' two' number') (some (.int r)) := by
  refine me_e pn_X7 (Nat.le_of_ble_eq_true rfl) rfl (fun Γ X E hret => ?_)
  unfold f_X7_carryOut at hF
  refine kw_aload_n X dX7_carryOut_0 rfl 0 rfl ?_
  obtain ⟨b1, b2, b3, b4, b5, b6, hx6, hF⟩ := ob6_ex hF
  refine kw_aei X (r := .int b1) (As := []) (st := []) E (c_X7_faultOf l D cI cC cR h0 h1 h2 h3 h4 p sv asd tx states len at_ letter one two number Z b1 b2 b3 b4 b5 b6 hx6) vl_X7_146 yv_X7_faultOf ⟨Nat.le_of_ble_eq_true rfl, Nat.le_of_ble_eq_true rfl⟩ ⟨rfl, rfl⟩ ⟨Nat.zero_le _, Nat.zero_le _⟩ 0 rfl rfl rfl rfl (Nat.le_of_ble_eq_true rfl) dX7_carryOut_1 ?_
  refine kw_istore_n (lo' := [(0, .ref h0), (1, .int b1)]) X dX7_carryOut_4 rfl (by decide) [1, 0] rfl ?_
  refine kw_iload_n X dX7_carryOut_5 rfl 1 rfl ?_
  refine kw_if_lt X 15 dX7_carryOut_6 (by decide) (fun q7 => ?_) (fun q7 => ?_)
  · replace hF := (if_pos q7).symm.trans hF
    refine kw_aload_n X dX7_carryOut_15 rfl 0 rfl ?_
    obtain ⟨m8, b9, hx9, hF⟩ := ob2_ex hF
    refine kw_aev X (As := []) (st := []) E (c_X7_save l D cI cC cR h0 h1 h2 h3 h4 p sv asd tx states len b2 b3 b4 b5 b6 Z m8 b9 hx9) vl_X7_54 yv_X7_save ⟨Nat.le_of_ble_eq_true rfl, Nat.le_of_ble_eq_true rfl⟩ ⟨rfl, rfl⟩ ⟨Nat.zero_le _, Nat.zero_le _⟩ 0 rfl rfl rfl rfl (Nat.le_of_ble_eq_true rfl) dX7_carryOut_16 ?_
    refine kw_aload_n X dX7_carryOut_19 rfl 0 rfl ?_
    refine kw_iconst X dX7_carryOut_20 ci_0 ?_
    refine kw_put X E inX7 tyX7 tyX7_ok nmX7 0 rfl rfl 6 (by decide) rfl gw_704 rfl pfd_I (vp_nar_int _) rfl (Nat.le_of_ble_eq_true rfl) (ws' := wX7 cI h0 h1 h2 h3 h4 p m8 asd tx b9 len 0 b3 b4 b5 b6) rfl dX7_carryOut_21 ?_
    refine kw_iconst X dX7_carryOut_24 ci_0 ?_
    refine kw_istore_n (lo' := [(0, .ref h0), (1, .int b1), (2, .int 0)]) X dX7_carryOut_25 rfl (by decide) [1, 2, 0] rfl ?_
    refine kw_aload_n X dX7_carryOut_26 rfl 0 rfl ?_
    obtain ⟨b10, b11, b12, b13, b14, b15, hx15, hF⟩ := ob6_ex hF
    refine kw_aei X (r := .int b10) (As := []) (st := []) E (c_X7_readOrder l D cI cC cR h0 h1 h2 h3 h4 p m8 asd tx b9 len 0 b3 b4 b5 b6 b10 b11 b12 b13 b14 b15 hx15) vl_X7_143 yv_X7_readOrder ⟨Nat.le_of_ble_eq_true rfl, Nat.le_of_ble_eq_true rfl⟩ ⟨rfl, rfl⟩ ⟨Nat.zero_le _, Nat.zero_le _⟩ 0 rfl rfl rfl rfl (Nat.le_of_ble_eq_true rfl) dX7_carryOut_27 ?_
    obtain ⟨x22, w23, hx24, hF⟩ := ob2_ex hF
    have J : KW Γ 0 0 (wX7 cI h0 h1 h2 h3 h4 w23 m8 asd tx b9 len b11 b12 b13 b14 b15) [(0, .ref h0), (2, .int 0)] 45 [.int x22] := by
      refine kw_istore_n (lo' := [(0, .ref h0), (2, .int 0), (3, .int x22)]) X dX7_carryOut_45 rfl (by decide) [1, 2, 0] rfl ?_
      obtain ⟨e109, e110, e111, e112, e113, e114, w115, hx, hF⟩ := ob7_ex hF
      have J : KW Γ 0 0 (wX7 cI h0 h1 h2 h3 h4 w115 m8 asd tx b9 len e110 e111 e112 e113 e114) [(0, .ref h0), (2, .int e109)] 85 [] := by
        refine kw_aload_n X dX7_carryOut_85 rfl 0 rfl ?_
        refine kw_iconst X dX7_carryOut_86 ci_0 ?_
        refine kw_put X E inX7 tyX7 tyX7_ok nmX7 0 rfl rfl 5 (by decide) rfl gw_703 rfl pfd_I (vp_nar_int _) rfl (Nat.le_of_ble_eq_true rfl) (ws' := wX7 cI h0 h1 h2 h3 h4 w115 m8 asd tx b9 0 e110 e111 e112 e113 e114) rfl dX7_carryOut_87 ?_
        refine kw_iload_n X dX7_carryOut_90 rfl 1 rfl ?_
        obtain ⟨rfl, rfl, rfl, rfl, rfl, rfl, rfl, rfl, rfl, rfl⟩ := si10 hF
        exact hret _ _ (vp_nar_int _) dX7_carryOut_91
      have hL46 : ∀ (F : Nat) (v2_116 : Int32) (v3_117 : Int32) (w118 : Int32) (w119 : Int32) (w120 : Int32) (w121 : Int32) (w122 : Int32) (w123 : Nat → Int32), f_X7_carryOut_L46 Z tx len F v2_116 v3_117 w118 w119 w120 w121 w122 w123 = some (e109, e110, e111, e112, e113, e114, w115) → KW Γ 0 0 (wX7 cI h0 h1 h2 h3 h4 w123 m8 asd tx b9 len w118 w119 w120 w121 w122) [(0, .ref h0), (2, .int v2_116), (3, .int v3_117)] 46 [] := by
        intro F
        induction F with
        | zero => intro v2_116 v3_117 w118 w119 w120 w121 w122 w123 hF; exact none_some hF
        | succ F ih46 =>
          intro v2_116 v3_117 w118 w119 w120 w121 w122 w123 hF
          rw [f_X7_carryOut_L46] at hF
          refine kw_iload_n X dX7_carryOut_46 rfl 2 rfl ?_
          refine kw_if_eq X 85 dX7_carryOut_47 (by decide) (fun q124 => ?_) (fun q124 => ?_)
          · replace hF := (if_pos q124).symm.trans hF
            refine kw_loc (lo' := [(0, .ref h0), (2, .int v2_116)]) [0, 1] rfl ?_
            obtain ⟨rfl, rfl, rfl, rfl, rfl, rfl, rfl⟩ := si7 hF
            exact J
          · replace hF := (if_neg q124).symm.trans hF
            refine kw_iinc (lo' := [(0, .ref h0), (2, .int (v2_116 + 1)), (3, .int v3_117)]) X dX7_carryOut_50 1 rfl (congrArg (fun w => v2_116 + w) ci_1) (by decide) [1, 0, 2] rfl ?_
            refine kw_aload_n X dX7_carryOut_53 rfl 0 rfl ?_
            refine kw_bipush X dX7_carryOut_54 cb_59 ?_
            obtain ⟨b125, b126, hx126, hF⟩ := ob2_ex hF
            refine kw_aei X (r := .int b125) (As := [.int 59]) (st := []) E (c_X7_passes_ l D cI cC cR h0 h1 h2 h3 h4 w123 m8 asd tx b9 len w118 w119 w120 w121 w122 59 b125 b126 hx126) vl_X7_138 yv_X7_passes_ ⟨Nat.le_of_ble_eq_true rfl, Nat.le_of_ble_eq_true rfl⟩ ⟨rfl, rfl⟩ ⟨Nat.zero_le _, Nat.zero_le _⟩ 0 rfl rfl rfl rfl (Nat.le_of_ble_eq_true rfl) dX7_carryOut_56 ?_
            obtain ⟨x144, w145, w146, w147, w148, w149, w150, hx151, hF⟩ := ob7_ex hF
            have J : KW Γ 0 0 (wX7 cI h0 h1 h2 h3 h4 w150 m8 asd tx b9 len w145 w146 w147 w148 w149) [(0, .ref h0), (2, .int (v2_116 + 1))] 81 [.int x144] := by
              refine kw_istore_n (lo' := [(0, .ref h0), (2, .int (v2_116 + 1)), (3, .int x144)]) X dX7_carryOut_81 rfl (by decide) [1, 2, 0] rfl ?_
              refine kw_goto X 46 dX7_carryOut_82 (by decide) ?_
              exact ih46 _ _ _ _ _ _ _ _ hF
            replace hF := hx151
            refine kw_if_eq X 80 dX7_carryOut_59 (by decide) (fun q127 => ?_) (fun q127 => ?_)
            · replace hF := (if_pos q127).symm.trans hF
              refine kw_iconst X dX7_carryOut_80 ci_0 ?_
              refine kw_loc (lo' := [(0, .ref h0), (2, .int (v2_116 + 1))]) [0, 1] rfl ?_
              obtain ⟨rfl, rfl, rfl, rfl, rfl, rfl, rfl⟩ := si7 hF
              exact J
            · replace hF := (if_neg q127).symm.trans hF
              refine kw_aload_n X dX7_carryOut_62 rfl 0 rfl ?_
              obtain ⟨b152, b153, b154, b155, b156, b157, hx157, hF⟩ := ob6_ex hF
              refine kw_aei X (r := .int b152) (As := []) (st := []) E (c_X7_readOrder l D cI cC cR h0 h1 h2 h3 h4 w123 m8 asd tx b9 len b126 w119 w120 w121 w122 b152 b153 b154 b155 b156 b157 hx157) vl_X7_143 yv_X7_readOrder ⟨Nat.le_of_ble_eq_true rfl, Nat.le_of_ble_eq_true rfl⟩ ⟨rfl, rfl⟩ ⟨Nat.zero_le _, Nat.zero_le _⟩ 0 rfl rfl rfl rfl (Nat.le_of_ble_eq_true rfl) dX7_carryOut_63 ?_
              refine kw_if_eq X 80 dX7_carryOut_66 (by decide) (fun q158 => ?_) (fun q158 => ?_)
              · replace hF := (if_pos q158).symm.trans hF
                refine kw_iconst X dX7_carryOut_80 ci_0 ?_
                refine kw_loc (lo' := [(0, .ref h0), (2, .int (v2_116 + 1))]) [0, 1] rfl ?_
                obtain ⟨rfl, rfl, rfl, rfl, rfl, rfl, rfl⟩ := si7 hF
                exact J
              · replace hF := (if_neg q158).symm.trans hF
                refine kw_aload_n X dX7_carryOut_69 rfl 0 rfl ?_
                obtain ⟨b159, m160, hx160, hF⟩ := ob2_ex hF
                refine kw_aei X (r := .int b159) (As := []) (st := []) E (c_X7_does l D cI cC cR h0 h1 h2 h3 h4 w123 m8 asd tx b9 len b153 b154 b155 b156 b157 Z b159 m160 hx160) vl_X7_149 yv_X7_does ⟨Nat.le_of_ble_eq_true rfl, Nat.le_of_ble_eq_true rfl⟩ ⟨rfl, rfl⟩ ⟨Nat.zero_le _, Nat.zero_le _⟩ 0 rfl rfl rfl rfl (Nat.le_of_ble_eq_true rfl) dX7_carryOut_70 ?_
                refine kw_if_eq X 80 dX7_carryOut_73 (by decide) (fun q161 => ?_) (fun q161 => ?_)
                · replace hF := (if_pos q161).symm.trans hF
                  refine kw_iconst X dX7_carryOut_80 ci_0 ?_
                  refine kw_loc (lo' := [(0, .ref h0), (2, .int (v2_116 + 1))]) [0, 1] rfl ?_
                  obtain ⟨rfl, rfl, rfl, rfl, rfl, rfl, rfl⟩ := si7 hF
                  exact J
                · replace hF := (if_neg q161).symm.trans hF
                  refine kw_iconst X dX7_carryOut_76 ci_1 ?_
                  refine kw_goto X 81 dX7_carryOut_77 (by decide) ?_
                  refine kw_loc (lo' := [(0, .ref h0), (2, .int (v2_116 + 1))]) [0, 1] rfl ?_
                  obtain ⟨rfl, rfl, rfl, rfl, rfl, rfl, rfl⟩ := si7 hF
                  exact J
      exact hL46 Z _ _ _ _ _ _ _ _ hx
    replace hF := hx24
    refine kw_if_eq X 44 dX7_carryOut_30 (by decide) (fun q16 => ?_) (fun q16 => ?_)
    · replace hF := (if_pos q16).symm.trans hF
      refine kw_iconst X dX7_carryOut_44 ci_0 ?_
      refine kw_loc (lo' := [(0, .ref h0), (2, .int 0)]) [0, 2] rfl ?_
      obtain ⟨rfl, rfl⟩ := si2 hF
      exact J
    · replace hF := (if_neg q16).symm.trans hF
      refine kw_aload_n X dX7_carryOut_33 rfl 0 rfl ?_
      obtain ⟨b162, m163, hx163, hF⟩ := ob2_ex hF
      refine kw_aei X (r := .int b162) (As := []) (st := []) E (c_X7_does l D cI cC cR h0 h1 h2 h3 h4 p m8 asd tx b9 len b11 b12 b13 b14 b15 Z b162 m163 hx163) vl_X7_149 yv_X7_does ⟨Nat.le_of_ble_eq_true rfl, Nat.le_of_ble_eq_true rfl⟩ ⟨rfl, rfl⟩ ⟨Nat.zero_le _, Nat.zero_le _⟩ 0 rfl rfl rfl rfl (Nat.le_of_ble_eq_true rfl) dX7_carryOut_34 ?_
      refine kw_if_eq X 44 dX7_carryOut_37 (by decide) (fun q164 => ?_) (fun q164 => ?_)
      · replace hF := (if_pos q164).symm.trans hF
        refine kw_iconst X dX7_carryOut_44 ci_0 ?_
        refine kw_loc (lo' := [(0, .ref h0), (2, .int 0)]) [0, 2] rfl ?_
        obtain ⟨rfl, rfl⟩ := si2 hF
        exact J
      · replace hF := (if_neg q164).symm.trans hF
        refine kw_iconst X dX7_carryOut_40 ci_1 ?_
        refine kw_goto X 45 dX7_carryOut_41 (by decide) ?_
        refine kw_loc (lo' := [(0, .ref h0), (2, .int 0)]) [0, 2] rfl ?_
        obtain ⟨rfl, rfl⟩ := si2 hF
        exact J
  · replace hF := (if_neg q7).symm.trans hF
    refine kw_sipush X dX7_carryOut_9 cs_m1000 ?_
    refine kw_iload_n X dX7_carryOut_12 rfl 1 rfl ?_
    refine kw_isub X dX7_carryOut_13 ?_
    obtain ⟨rfl, rfl, rfl, rfl, rfl, rfl, rfl, rfl, rfl, rfl⟩ := si10 hF
    exact hret _ _ (vp_nar_int _) dX7_carryOut_14
