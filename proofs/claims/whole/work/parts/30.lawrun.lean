theorem ld_sub {L : Nat} (hL : L ≤ 2048) : (nI L - 4).toInt = (L : Int) - 4 := by
  rw [Int32.toInt_sub, nI_toInt (by omega)]
  show Int.bmod ((L : Int) - 4) (2 ^ 32) = (L : Int) - 4
  rw [Int.bmod_eq_of_le (by omega) (by omega)]
theorem ld_in {j L : Nat} (hL : L ≤ 2048) (hj : j ≤ L) (h : ¬ (nI L - 4) < nI j) : j + 3 < L := by
  rw [Int32.lt_iff_toInt_lt, ld_sub hL, nI_toInt (by omega)] at h
  omega
theorem ld_out {j L : Nat} (hL : L ≤ 2048) (hj : j + 3 < L) : ¬ (nI L - 4) < nI j := by
  rw [Int32.lt_iff_toInt_lt, ld_sub hL, nI_toInt (by omega)]
  omega
theorem ld_inc (j : Nat) : nI j + Int32.ofInt 4 = nI (j + 4) := by
  rw [show Int32.ofInt 4 = nI 4 from rfl, nI_add]
set_option maxHeartbeats 1000000 in
theorem w_L_loop {Γ : KG} {w0 : Cond} (l : Launch) (D : va_G) (cI cC cR : ClassId) (h0 h1 t0 t1 : Nat) (a b d ah : Nat → Nat) (mo0 mo1 mo2 mo3 mo4 : Nat) (sb L : Nat) (xs : Nat → Int32) (X : KX Γ l room_1 D (TY cI cC cR) code 4 "RibbedLoansLaw" w0) (E : KE Γ) (S : KL Γ sb L xs) {n z : Nat} (hnz : n ≤ room_1.cells ∧ z ≤ room_1.slots) (hL : L ≤ 2048) (Z : Nat) (Rel : LST → Prop) (hR : ∀ v, Rel v → LOK v) (hS : ∀ v x s1 s2 s3, Rel v → ∃ v1, stp Z v x s1 s2 s3 = some v1 ∧ Rel v1)
    (hend : ∀ v (j : Nat), Rel v → KW Γ n z (lawW cI cC cR h0 h1 t0 t1 a b d ah mo0 mo1 mo2 mo3 mo4 v) [(0, .ref sb), (1, .ref h0), (2, .ref mo0), (3, .int (nI j))] 850 [.int 1]) :
    ∀ (k j : Nat) (v : LST), L - j ≤ k → j ≤ L → Rel v → KW Γ n z (lawW cI cC cR h0 h1 t0 t1 a b d ah mo0 mo1 mo2 mo3 mo4 v) [(0, .ref sb), (1, .ref h0), (2, .ref mo0), (3, .int (nI j))] 18 [] := by
  intro k
  induction k with
  | zero =>
    intro j v hk hj hv
    refine kw_iload_n X dL_law_18 rfl 3 rfl ?_
    refine kw_aload_n X dL_law_19 rfl 0 rfl ?_
    refine kl_slen X S dL_law_20 ?_
    refine kw_iconst X dL_law_21 ci_4 ?_
    refine kw_isub X dL_law_22 ?_
    refine kw_icmp_gt X 849 dL_law_23 (by decide) (fun q => ?_) (fun q => ?_)
    · exact kw_iconst X dL_law_849 ci_1 (hend v j hv)
    · have := ld_in hL hj q
      omega
  | succ k ih =>
    intro j v hk hj hv
    refine kw_iload_n X dL_law_18 rfl 3 rfl ?_
    refine kw_aload_n X dL_law_19 rfl 0 rfl ?_
    refine kl_slen X S dL_law_20 ?_
    refine kw_iconst X dL_law_21 ci_4 ?_
    refine kw_isub X dL_law_22 ?_
    refine kw_icmp_gt X 849 dL_law_23 (by decide) (fun q => ?_) (fun q => ?_)
    · exact kw_iconst X dL_law_849 ci_1 (hend v j hv)
    · have h3 := ld_in hL hj q
      refine kw_aload_n X dL_law_26 rfl 0 rfl ?_
      refine kw_iload_n X dL_law_27 rfl 3 rfl ?_
      refine kl_sld (v := xs j) X S (ld_0 (by omega) hL).1 (congrArg xs (ld_0 (by omega) hL).2) dL_law_28 ?_
      refine kw_bipush X dL_law_29 cb_31 ?_
      refine kw_iand X dL_law_31 ?_
      obtain ⟨v1, hF, hv1⟩ := hS v (xs j &&& 31) (xs (j + 1)) (xs (j + 2)) (xs (j + 3)) hv
      refine w_L_sw l D cI cC cR h0 h1 t0 t1 a b d ah mo0 mo1 mo2 mo3 mo4 sb L xs X E S hnz hL Z j h3 _ v v1 (hR v hv) hF ?_
      refine kw_iinc (lo' := [(0, .ref sb), (1, .ref h0), (2, .ref mo0), (3, .int (nI (j + 4)))]) X dL_law_843 3 rfl (ld_inc j) (by decide) [1, 2, 3, 0] rfl ?_
      refine kw_goto X 18 dL_law_846 (by decide) ?_
      exact ih (j + 4) v1 (by omega) (by omega) hv1
