def stp (Z : Nat) (v : LST) (x sc1 sc2 sc3 : Int32) : Option LST :=
  if x = 0 then stp_0 Z v sc1 sc2 sc3 else if x = 1 then stp_1 Z v sc1 sc2 sc3 else if x = 2 then stp_2 Z v sc1 sc2 sc3 else if x = 3 then stp_3 Z v sc1 sc2 sc3 else if x = 4 then stp_4 Z v sc1 sc2 sc3 else if x = 5 then stp_5 Z v sc1 sc2 sc3 else if x = 6 then stp_6 Z v sc1 sc2 sc3 else if x = 7 then stp_7 Z v sc1 sc2 sc3 else if x = 8 then stp_8 Z v sc1 sc2 sc3 else if x = 9 then stp_9 Z v sc1 sc2 sc3 else if x = 10 then stp_10 Z v sc1 sc2 sc3 else if x = 11 then stp_11 Z v sc1 sc2 sc3 else if x = 12 then stp_12 Z v sc1 sc2 sc3 else if x = 13 then stp_13 Z v sc1 sc2 sc3 else if x = 14 then stp_14 Z v sc1 sc2 sc3 else if x = 15 then stp_15 Z v sc1 sc2 sc3 else if x = 16 then stp_16 Z v sc1 sc2 sc3 else if x = 17 then stp_17 Z v sc1 sc2 sc3 else if x = 18 then stp_18 Z v sc1 sc2 sc3 else if x = 19 then stp_19 Z v sc1 sc2 sc3 else if x = 20 then stp_20 Z v sc1 sc2 sc3 else if x = 21 then stp_21 Z v sc1 sc2 sc3 else if x = 22 then stp_22 Z v sc1 sc2 sc3 else if x = 23 then stp_23 Z v sc1 sc2 sc3 else if x = 24 then stp_24 Z v sc1 sc2 sc3 else some v
set_option maxHeartbeats 4000000 in
theorem w_L_sw {Γ : KG} {w0 : Cond} (l : Launch) (D : va_G) (cI cC cR : ClassId) (h0 h1 t0 t1 : Nat) (a b d ah : Nat → Nat) (mo0 mo1 mo2 mo3 mo4 : Nat) (sb L : Nat) (xs : Nat → Int32) (X : KX Γ l room_1 D (TY cI cC cR) code 4 "RibbedLoansLaw" w0) (E : KE Γ) (S : KL Γ sb L xs) {n z : Nat} (hnz : n ≤ room_1.cells ∧ z ≤ room_1.slots) (hL : L ≤ 2048) (Z : Nat) (j : Nat) (hj : j + 3 < L) (x : Int32) (v v1 : LST) (ok : LOK v) (hF : stp Z v x (xs (j + 1)) (xs (j + 2)) (xs (j + 3)) = some v1) (kk : KW Γ n z (lawW cI cC cR h0 h1 t0 t1 a b d ah mo0 mo1 mo2 mo3 mo4 v1) [(0, .ref sb), (1, .ref h0), (2, .ref mo0), (3, .int (nI j))] 843 []) : KW Γ n z (lawW cI cC cR h0 h1 t0 t1 a b d ah mo0 mo1 mo2 mo3 mo4 v) [(0, .ref sb), (1, .ref h0), (2, .ref mo0), (3, .int (nI j))] 32 [.int x] := by
  by_cases q0 : x = 0
  · replace hF := (if_pos q0).symm.trans hF
    refine kw_tblIn X 148 dL_law_32 (by rw [q0]; decide) (by rw [q0]; decide) (by rw [q0]; try rfl) (by decide) ?_
    exact w_L_0 l D cI cC cR h0 h1 t0 t1 a b d ah mo0 mo1 mo2 mo3 mo4 sb L xs X E S hnz j hj hL Z v v1 ok hF kk
  replace hF := (if_neg q0).symm.trans hF
  by_cases q1 : x = 1
  · replace hF := (if_pos q1).symm.trans hF
    refine kw_tblIn X 181 dL_law_32 (by rw [q1]; decide) (by rw [q1]; decide) (by rw [q1]; try rfl) (by decide) ?_
    exact w_L_1 l D cI cC cR h0 h1 t0 t1 a b d ah mo0 mo1 mo2 mo3 mo4 sb L xs X E S hnz j hj hL Z v v1 ok hF kk
  replace hF := (if_neg q1).symm.trans hF
  by_cases q2 : x = 2
  · replace hF := (if_pos q2).symm.trans hF
    refine kw_tblIn X 214 dL_law_32 (by rw [q2]; decide) (by rw [q2]; decide) (by rw [q2]; try rfl) (by decide) ?_
    exact w_L_2 l D cI cC cR h0 h1 t0 t1 a b d ah mo0 mo1 mo2 mo3 mo4 sb L xs X E S hnz j hj hL Z v v1 ok hF kk
  replace hF := (if_neg q2).symm.trans hF
  by_cases q3 : x = 3
  · replace hF := (if_pos q3).symm.trans hF
    refine kw_tblIn X 247 dL_law_32 (by rw [q3]; decide) (by rw [q3]; decide) (by rw [q3]; try rfl) (by decide) ?_
    exact w_L_3 l D cI cC cR h0 h1 t0 t1 a b d ah mo0 mo1 mo2 mo3 mo4 sb L xs X E S hnz j hj hL Z v v1 ok hF kk
  replace hF := (if_neg q3).symm.trans hF
  by_cases q4 : x = 4
  · replace hF := (if_pos q4).symm.trans hF
    refine kw_tblIn X 280 dL_law_32 (by rw [q4]; decide) (by rw [q4]; decide) (by rw [q4]; try rfl) (by decide) ?_
    exact w_L_4 l D cI cC cR h0 h1 t0 t1 a b d ah mo0 mo1 mo2 mo3 mo4 sb L xs X E S hnz j hj hL Z v v1 ok hF kk
  replace hF := (if_neg q4).symm.trans hF
  by_cases q5 : x = 5
  · replace hF := (if_pos q5).symm.trans hF
    refine kw_tblIn X 313 dL_law_32 (by rw [q5]; decide) (by rw [q5]; decide) (by rw [q5]; try rfl) (by decide) ?_
    exact w_L_5 l D cI cC cR h0 h1 t0 t1 a b d ah mo0 mo1 mo2 mo3 mo4 sb L xs X E S hnz j hj hL Z v v1 ok hF kk
  replace hF := (if_neg q5).symm.trans hF
  by_cases q6 : x = 6
  · replace hF := (if_pos q6).symm.trans hF
    refine kw_tblIn X 356 dL_law_32 (by rw [q6]; decide) (by rw [q6]; decide) (by rw [q6]; try rfl) (by decide) ?_
    exact w_L_6 l D cI cC cR h0 h1 t0 t1 a b d ah mo0 mo1 mo2 mo3 mo4 sb L xs X E S hnz j hj hL Z v v1 ok hF kk
  replace hF := (if_neg q6).symm.trans hF
  by_cases q7 : x = 7
  · replace hF := (if_pos q7).symm.trans hF
    refine kw_tblIn X 399 dL_law_32 (by rw [q7]; decide) (by rw [q7]; decide) (by rw [q7]; try rfl) (by decide) ?_
    exact w_L_7 l D cI cC cR h0 h1 t0 t1 a b d ah mo0 mo1 mo2 mo3 mo4 sb L xs X E S hnz j hj hL Z v v1 ok hF kk
  replace hF := (if_neg q7).symm.trans hF
  by_cases q8 : x = 8
  · replace hF := (if_pos q8).symm.trans hF
    refine kw_tblIn X 422 dL_law_32 (by rw [q8]; decide) (by rw [q8]; decide) (by rw [q8]; try rfl) (by decide) ?_
    exact w_L_8 l D cI cC cR h0 h1 t0 t1 a b d ah mo0 mo1 mo2 mo3 mo4 sb L xs X E S hnz j hj hL Z v v1 ok hF kk
  replace hF := (if_neg q8).symm.trans hF
  by_cases q9 : x = 9
  · replace hF := (if_pos q9).symm.trans hF
    refine kw_tblIn X 445 dL_law_32 (by rw [q9]; decide) (by rw [q9]; decide) (by rw [q9]; try rfl) (by decide) ?_
    exact w_L_9 l D cI cC cR h0 h1 t0 t1 a b d ah mo0 mo1 mo2 mo3 mo4 sb L xs X E S hnz j hj hL Z v v1 ok hF kk
  replace hF := (if_neg q9).symm.trans hF
  by_cases q10 : x = 10
  · replace hF := (if_pos q10).symm.trans hF
    refine kw_tblIn X 458 dL_law_32 (by rw [q10]; decide) (by rw [q10]; decide) (by rw [q10]; try rfl) (by decide) ?_
    exact w_L_10 l D cI cC cR h0 h1 t0 t1 a b d ah mo0 mo1 mo2 mo3 mo4 sb L xs X E S hnz j hj hL Z v v1 ok hF kk
  replace hF := (if_neg q10).symm.trans hF
  by_cases q11 : x = 11
  · replace hF := (if_pos q11).symm.trans hF
    refine kw_tblIn X 481 dL_law_32 (by rw [q11]; decide) (by rw [q11]; decide) (by rw [q11]; try rfl) (by decide) ?_
    exact w_L_11 l D cI cC cR h0 h1 t0 t1 a b d ah mo0 mo1 mo2 mo3 mo4 sb L xs X E S hnz j hj hL Z v v1 ok hF kk
  replace hF := (if_neg q11).symm.trans hF
  by_cases q12 : x = 12
  · replace hF := (if_pos q12).symm.trans hF
    refine kw_tblIn X 504 dL_law_32 (by rw [q12]; decide) (by rw [q12]; decide) (by rw [q12]; try rfl) (by decide) ?_
    exact w_L_12 l D cI cC cR h0 h1 t0 t1 a b d ah mo0 mo1 mo2 mo3 mo4 sb L xs X E S hnz j hj hL Z v v1 ok hF kk
  replace hF := (if_neg q12).symm.trans hF
  by_cases q13 : x = 13
  · replace hF := (if_pos q13).symm.trans hF
    refine kw_tblIn X 517 dL_law_32 (by rw [q13]; decide) (by rw [q13]; decide) (by rw [q13]; try rfl) (by decide) ?_
    exact w_L_13 l D cI cC cR h0 h1 t0 t1 a b d ah mo0 mo1 mo2 mo3 mo4 sb L xs X E S hnz j hj hL Z v v1 ok hF kk
  replace hF := (if_neg q13).symm.trans hF
  by_cases q14 : x = 14
  · replace hF := (if_pos q14).symm.trans hF
    refine kw_tblIn X 540 dL_law_32 (by rw [q14]; decide) (by rw [q14]; decide) (by rw [q14]; try rfl) (by decide) ?_
    exact w_L_14 l D cI cC cR h0 h1 t0 t1 a b d ah mo0 mo1 mo2 mo3 mo4 sb L xs X E S hnz j hj hL Z v v1 ok hF kk
  replace hF := (if_neg q14).symm.trans hF
  by_cases q15 : x = 15
  · replace hF := (if_pos q15).symm.trans hF
    refine kw_tblIn X 553 dL_law_32 (by rw [q15]; decide) (by rw [q15]; decide) (by rw [q15]; try rfl) (by decide) ?_
    exact w_L_15 l D cI cC cR h0 h1 t0 t1 a b d ah mo0 mo1 mo2 mo3 mo4 sb L xs X E S hnz j hj hL Z v v1 ok hF kk
  replace hF := (if_neg q15).symm.trans hF
  by_cases q16 : x = 16
  · replace hF := (if_pos q16).symm.trans hF
    refine kw_tblIn X 566 dL_law_32 (by rw [q16]; decide) (by rw [q16]; decide) (by rw [q16]; try rfl) (by decide) ?_
    exact w_L_16 l D cI cC cR h0 h1 t0 t1 a b d ah mo0 mo1 mo2 mo3 mo4 sb L xs X E S hnz j hj hL Z v v1 ok hF kk
  replace hF := (if_neg q16).symm.trans hF
  by_cases q17 : x = 17
  · replace hF := (if_pos q17).symm.trans hF
    refine kw_tblIn X 589 dL_law_32 (by rw [q17]; decide) (by rw [q17]; decide) (by rw [q17]; try rfl) (by decide) ?_
    exact w_L_17 l D cI cC cR h0 h1 t0 t1 a b d ah mo0 mo1 mo2 mo3 mo4 sb L xs X E S hnz j hj hL Z v v1 ok hF kk
  replace hF := (if_neg q17).symm.trans hF
  by_cases q18 : x = 18
  · replace hF := (if_pos q18).symm.trans hF
    refine kw_tblIn X 622 dL_law_32 (by rw [q18]; decide) (by rw [q18]; decide) (by rw [q18]; try rfl) (by decide) ?_
    exact w_L_18 l D cI cC cR h0 h1 t0 t1 a b d ah mo0 mo1 mo2 mo3 mo4 sb L xs X E S hnz j hj hL Z v v1 ok hF kk
  replace hF := (if_neg q18).symm.trans hF
  by_cases q19 : x = 19
  · replace hF := (if_pos q19).symm.trans hF
    refine kw_tblIn X 655 dL_law_32 (by rw [q19]; decide) (by rw [q19]; decide) (by rw [q19]; try rfl) (by decide) ?_
    exact w_L_19 l D cI cC cR h0 h1 t0 t1 a b d ah mo0 mo1 mo2 mo3 mo4 sb L xs X E S hnz j hj hL Z v v1 ok hF kk
  replace hF := (if_neg q19).symm.trans hF
  by_cases q20 : x = 20
  · replace hF := (if_pos q20).symm.trans hF
    refine kw_tblIn X 688 dL_law_32 (by rw [q20]; decide) (by rw [q20]; decide) (by rw [q20]; try rfl) (by decide) ?_
    exact w_L_20 l D cI cC cR h0 h1 t0 t1 a b d ah mo0 mo1 mo2 mo3 mo4 sb L xs X E S hnz j hj hL Z v v1 ok hF kk
  replace hF := (if_neg q20).symm.trans hF
  by_cases q21 : x = 21
  · replace hF := (if_pos q21).symm.trans hF
    refine kw_tblIn X 721 dL_law_32 (by rw [q21]; decide) (by rw [q21]; decide) (by rw [q21]; try rfl) (by decide) ?_
    exact w_L_21 l D cI cC cR h0 h1 t0 t1 a b d ah mo0 mo1 mo2 mo3 mo4 sb L xs X E S hnz j hj hL Z v v1 ok hF kk
  replace hF := (if_neg q21).symm.trans hF
  by_cases q22 : x = 22
  · replace hF := (if_pos q22).symm.trans hF
    refine kw_tblIn X 764 dL_law_32 (by rw [q22]; decide) (by rw [q22]; decide) (by rw [q22]; try rfl) (by decide) ?_
    exact w_L_22 l D cI cC cR h0 h1 t0 t1 a b d ah mo0 mo1 mo2 mo3 mo4 sb L xs X E S hnz j hj hL Z v v1 ok hF kk
  replace hF := (if_neg q22).symm.trans hF
  by_cases q23 : x = 23
  · replace hF := (if_pos q23).symm.trans hF
    refine kw_tblIn X 807 dL_law_32 (by rw [q23]; decide) (by rw [q23]; decide) (by rw [q23]; try rfl) (by decide) ?_
    exact w_L_23 l D cI cC cR h0 h1 t0 t1 a b d ah mo0 mo1 mo2 mo3 mo4 sb L xs X E S hnz j hj hL Z v v1 ok hF kk
  replace hF := (if_neg q23).symm.trans hF
  by_cases q24 : x = 24
  · replace hF := (if_pos q24).symm.trans hF
    refine kw_tblIn X 820 dL_law_32 (by rw [q24]; decide) (by rw [q24]; decide) (by rw [q24]; try rfl) (by decide) ?_
    exact w_L_24 l D cI cC cR h0 h1 t0 t1 a b d ah mo0 mo1 mo2 mo3 mo4 sb L xs X E S hnz j hj hL Z v v1 ok hF kk
  replace hF := (if_neg q24).symm.trans hF
  have hv := si1 hF
  subst hv
  have n0 := ne_toInt q0 (n := 0) (by decide)
  have n1 := ne_toInt q1 (n := 1) (by decide)
  have n2 := ne_toInt q2 (n := 2) (by decide)
  have n3 := ne_toInt q3 (n := 3) (by decide)
  have n4 := ne_toInt q4 (n := 4) (by decide)
  have n5 := ne_toInt q5 (n := 5) (by decide)
  have n6 := ne_toInt q6 (n := 6) (by decide)
  have n7 := ne_toInt q7 (n := 7) (by decide)
  have n8 := ne_toInt q8 (n := 8) (by decide)
  have n9 := ne_toInt q9 (n := 9) (by decide)
  have n10 := ne_toInt q10 (n := 10) (by decide)
  have n11 := ne_toInt q11 (n := 11) (by decide)
  have n12 := ne_toInt q12 (n := 12) (by decide)
  have n13 := ne_toInt q13 (n := 13) (by decide)
  have n14 := ne_toInt q14 (n := 14) (by decide)
  have n15 := ne_toInt q15 (n := 15) (by decide)
  have n16 := ne_toInt q16 (n := 16) (by decide)
  have n17 := ne_toInt q17 (n := 17) (by decide)
  have n18 := ne_toInt q18 (n := 18) (by decide)
  have n19 := ne_toInt q19 (n := 19) (by decide)
  have n20 := ne_toInt q20 (n := 20) (by decide)
  have n21 := ne_toInt q21 (n := 21) (by decide)
  have n22 := ne_toInt q22 (n := 22) (by decide)
  have n23 := ne_toInt q23 (n := 23) (by decide)
  have n24 := ne_toInt q24 (n := 24) (by decide)
  refine kw_tblOut X 843 dL_law_32 (by omega) (by decide) ?_
  exact kk
