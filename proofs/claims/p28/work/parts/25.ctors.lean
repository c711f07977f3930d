theorem kw_weq {Γ : KG} {n z pc : Nat} {ws ws' : va_W} {lo : List (Nat × Value)} {st : List Value} (h : ws = ws') (kk : KW Γ n z ws' lo pc st) : KW Γ n z ws lo pc st := h ▸ kk
def ad (l : List Nat) : Nat → Nat := fun i => l.getD i 0
def nc (q : Nat) (x : Nat → Nat) : Nat → Nat := fun i => match i with | 0 => q | i + 1 => x i
def j3 (q1 : Nat) (x1 : Nat → Nat) (q2 : Nat) (x2 : Nat → Nat) (q3 : Nat) (x3 : Nat → Nat) : Nat → Nat := fun i => if i < 20 then nc q1 x1 i else if i < 40 then nc q2 x2 (i - 20) else nc q3 x3 (i - 40)
theorem imax_n {N : Nat} {p1 : Int32} (hN : N < 2 ^ 31) (hp1 : p1 = nI N) : ¬ imax 0 p1 < 0 ∧ (imax 0 p1).toNatClampNeg = N := by
  subst hp1
  unfold imax
  split
  · exact ⟨nI_pos hN, nI_clamp hN⟩
  · next q =>
    have h1 : nI N ≤ 0 := Int32.not_lt.mp q
    rw [Int32.le_iff_toInt_le, nI_toInt hN] at h1
    have h2 : N = 0 := by
      have : (0 : Int32).toInt = 0 := by decide
      omega
    subst h2
    decide
def RJ7c : String := RJ7
theorem pn_J7 : plainName RJ7 = true := by decide +kernel
-- J7_fill
def f_J7_fill_53178_L5 (N : Nat) (p2 : Int32) : Nat → Int32 → (Nat → Int32) → Option ((Nat → Int32))
  | 0, _, _ => none
  | F + 1, v2_8, w9 => (if v2_8 < (nI N) then ob1 (aset N w9 v2_8 p2) (fun m11 => (f_J7_fill_53178_L5 N p2 F (v2_8 + 1) m11)) else (some (w9)))
def f_J7_fill_53178 (Z : Nat) (N : Nat) (c : Nat → Int32) (p2 : Int32) : Option ((Nat → Int32)) :=
  (ob1 (f_J7_fill_53178_L5 N p2 Z 0 c) (fun (w7 : Nat → Int32) => (some w7)))
abbrev rm_J7_fill_53178 : Room := { frames := 0, cells := 0, slots := 0, locals := 0 }
set_option maxHeartbeats 4000000 in
set_option maxRecDepth 100000 in
theorem c_J7_fill_53178 (l : Launch) (D : va_G) (cI cC cR : ClassId) (h0 : Nat) (N : Nat) (hN : N < 2 ^ 31) (c : Nat → Int32) (p2 : Int32) (Z : Nat) (c' : Nat → Int32) (hF : f_J7_fill_53178 Z N c p2 = some c') : MEq l yJ7_fill_53178 cJ7_fill_53178 4 none rm_J7_fill_53178 D (TY cI cC cR) [.ref h0, .int p2] ([(h0, .inl (cI, N, .inl c))]) ([(h0, .inl (cI, N, .inl c'))]) none := by
  refine me_v pn_J7 (Nat.le_of_ble_eq_true rfl) rfl (fun Γ X E hret => ?_)
  unfold f_J7_fill_53178 at hF
  refine kw_iconst X dJ7_fill_53178_0 ci_0 ?_
  refine kw_istore_n (lo' := [(0, .ref h0), (1, .int p2), (2, .int 0)]) X dJ7_fill_53178_1 rfl (by decide) [1, 2, 0] rfl ?_
  refine kw_aload_n X dJ7_fill_53178_2 rfl 0 rfl ?_
  refine kw_alen (v := (nI N)) X 0 0 rfl rfl rfl dJ7_fill_53178_3 ?_
  refine kw_istore_n (lo' := [(0, .ref h0), (1, .int p2), (2, .int 0), (3, .int (nI N))]) X dJ7_fill_53178_4 rfl (by decide) [1, 2, 3, 0] rfl ?_
  obtain ⟨w7, hx, hF⟩ := ob1_ex hF
  have J : KW Γ 0 0 ([(h0, .inl (cI, N, .inl w7))]) [] 20 [] := by
    obtain rfl := si1 hF
    exact hret _ _ dJ7_fill_53178_20
  have hL5 : ∀ (F : Nat) (v2_8 : Int32) (w9 : Nat → Int32), f_J7_fill_53178_L5 N p2 F v2_8 w9 = some (w7) → KW Γ 0 0 ([(h0, .inl (cI, N, .inl w9))]) [(0, .ref h0), (1, .int p2), (2, .int v2_8), (3, .int (nI N))] 5 [] := by
    intro F
    induction F with
    | zero => intro v2_8 w9 hF; exact none_some hF
    | succ F ih5 =>
      intro v2_8 w9 hF
      rw [f_J7_fill_53178_L5] at hF
      refine kw_iload_n X dJ7_fill_53178_5 rfl 2 rfl ?_
      refine kw_iload_n X dJ7_fill_53178_6 rfl 3 rfl ?_
      refine kw_icmp_ge X 20 dJ7_fill_53178_7 (by decide) (fun q10 => ?_) (fun q10 => ?_)
      · replace hF := (if_neg q10).symm.trans hF
        refine kw_loc (lo' := []) [] rfl ?_
        obtain rfl := si1 hF
        exact J
      · replace hF := (if_pos q10).symm.trans hF
        refine kw_aload_n X dJ7_fill_53178_10 rfl 0 rfl ?_
        refine kw_iload_n X dJ7_fill_53178_11 rfl 2 rfl ?_
        refine kw_iload_n X dJ7_fill_53178_12 rfl 1 rfl ?_
        obtain ⟨m11, hx, hF⟩ := ob1_ex hF
        obtain ⟨hin, hx⟩ := aset_ex hx
        refine kw_iast X E 0 0 rfl rfl hin (ws' := [(h0, .inl (cI, N, .inl m11))]) (by rw [hx]; rfl) dJ7_fill_53178_13 ?_
        refine kw_iinc (lo' := [(0, .ref h0), (1, .int p2), (2, .int (v2_8 + 1)), (3, .int (nI N))]) X dJ7_fill_53178_14 2 rfl (congrArg (fun w => v2_8 + w) ci_1) (by decide) [1, 2, 0, 3] rfl ?_
        refine kw_goto X 5 dJ7_fill_53178_17 (by decide) ?_
        exact ih5 _ _ hF
  exact hL5 Z _ _ hx
-- X2_init
def f_X2_init (Z : Nat) (N : Nat) (p2 : Int32) : Option ((Nat → Int32)) :=
  (ob1 (f_J7_fill_53178 Z N (fun _ => 0) p2) (fun (m2 : Nat → Int32) => (some m2)))
abbrev rm_X2_init (N : Nat) : Room := { frames := 1, cells := 1, slots := N, locals := 23 }
set_option maxHeartbeats 4000000 in
set_option maxRecDepth 100000 in
theorem c_X2_init (l : Launch) (D : va_G) (cI cC cR : ClassId) (h0 : Nat) (N : Nat) (hN : N < 2 ^ 31) (hNs : N ≤ 65536) (p1 : Int32) (p2 : Int32) (hp1 : p1 = nI N) (Z : Nat) (r0 : Nat → Int32) (hF : f_X2_init Z N p2 = some r0) : MNq l yX2_init cX2_init 3 none (rm_X2_init N) D (TY cI cC cR) [.ref h0, .int p1, .int p2] (wj [[(h0, .inr (2, [.null]))]]) (fun x => wX2 cI h0 (x 0) N r0) 1 N := by
  refine me_n pn_X2 rfl (Nat.le_of_ble_eq_true rfl) rfl (fun Γ X E KNh hret => ?_)
  unfold f_X2_init at hF
  refine kw_aload_n X dX2_init_0 rfl 0 rfl ?_
  refine kb_obj X gw_53 gw_28 gw_29 ⟨Nat.le_of_ble_eq_true rfl, Nat.le_of_ble_eq_true rfl⟩ dX2_init_1 ?_
  refine kw_aload_n X dX2_init_4 rfl 0 rfl ?_
  refine kw_iconst X dX2_init_5 ci_0 ?_
  refine kw_iload_n X dX2_init_6 rfl 1 rfl ?_
  refine kw_mmax X gw_54 gw_55 gw_17 gw_56 ⟨Nat.le_of_ble_eq_true rfl, Nat.le_of_ble_eq_true rfl⟩ ⟨Nat.le_of_ble_eq_true rfl, Nat.le_of_ble_eq_true rfl⟩ dX2_init_7 ?_
  refine kb_newa (atype := .int) (N := N) X E gw_64 rfl (t0 := 0) rfl (fun C h => by cases h) rfl (imax_n hN hp1).1 (imax_n hN hp1).2 (by show N * 4 ≤ _; omega) ⟨Nat.le_of_ble_eq_true rfl, by show _ ≤ N; omega⟩ dX2_init_10 (fun q1 => ?_)
  refine kw_weq (ws' := wj [[(h0, .inr (2, [.null]))], [(q1, .inl (cI, N, .inl (fun _ => 0)))]]) rfl ?_
  refine kb_putF (t := tyX2 0) X E inX2 tyX2 tyX2_ok nmX2 0 0 rfl rfl rfl 0 (by decide) rfl KNh rfl gw_60 rfl (tyX2_ok 0 (by decide)) rfl rfl (Nat.le_of_ble_eq_true rfl) (bs' := [[(h0, .inr (2, [.ref q1]))], [(q1, .inl (cI, N, .inl (fun _ => 0)))]]) rfl dX2_init_12 ?_
  refine kw_aload_n X dX2_init_15 rfl 0 rfl ?_
  refine kb_get X inX2 0 0 rfl rfl rfl 0 (by decide) rfl gw_60 rfl dX2_init_16 ?_
  refine kw_iload_n X dX2_init_19 rfl 2 rfl ?_
  obtain ⟨m2, hx2, hF⟩ := ob1_ex hF
  refine kb_sev X (As := [.ref q1, .int p2]) (st := []) (bs' := [[(h0, .inr (2, [.ref q1]))], [(q1, .inl (cI, N, .inl m2))]]) E (c_J7_fill_53178 l D cI cC cR q1 N hN (fun _ => 0) p2 Z m2 hx2) ⟨⟨gw_57, gw_58, gw_18⟩, vl_X2_19.2⟩ yv_J7_fill_53178 ⟨Nat.le_of_ble_eq_true rfl, Nat.le_of_ble_eq_true rfl⟩ ⟨rfl, rfl⟩ ⟨Nat.le_of_ble_eq_true rfl, by show _ ≤ N; omega⟩ 1 rfl rfl rfl (Nat.le_of_ble_eq_true rfl) dX2_init_20 [q1] rfl rfl rfl ?_
  obtain rfl := si1 hF
  refine kw_widen (n' := 1) (z' := N) (by omega) (by omega) ?_
  exact hret (ad [q1]) _ _ dX2_init_23
-- X5_init
def f_X5_init (Z : Nat) : Option ((Nat → Int32) × (Nat → Int32) × (Nat → Int32) × (Nat → Int32)) :=
  (ob1 (f_X2_init Z 60 0) (fun (m3 : Nat → Int32) => (ob1 (f_X2_init Z 60 0) (fun (m6 : Nat → Int32) => (ob1 (f_X2_init Z 60 0) (fun (m9 : Nat → Int32) => (ob1 (f_X2_init Z 24 0) (fun (m12 : Nat → Int32) => (some (m3, m6, m9, m12))))))))))
abbrev rm_X5_init : Room := { frames := 2, cells := 8, slots := 208, locals := 45 }
set_option maxHeartbeats 4000000 in
set_option maxRecDepth 100000 in
theorem c_X5_init (l : Launch) (D : va_G) (cI cC cR : ClassId) (h0 : Nat) (Z : Nat) (r0 : Nat → Int32) (r1 : Nat → Int32) (r2 : Nat → Int32) (r3 : Nat → Int32) (hF : f_X5_init Z = some (r0, r1, r2, r3)) : MNq l yX5_init cX5_init 1 none rm_X5_init D (TY cI cC cR) [.ref h0] (wj [[(h0, .inr (5, [.null, .null, .null, .null, .int 0]))]]) (fun x => wX5 cI h0 (x 0) (x 1) (x 2) (x 3) (x 4) (x 5) (x 6) (x 7) r0 r1 r2 r3 0) 8 208 := by
  refine me_n pn_X5 rfl (Nat.le_of_ble_eq_true rfl) rfl (fun Γ X E KNh hret => ?_)
  unfold f_X5_init at hF
  refine kw_aload_n X dX5_init_0 rfl 0 rfl ?_
  refine kb_obj X gw_47 gw_28 gw_29 ⟨Nat.le_of_ble_eq_true rfl, Nat.le_of_ble_eq_true rfl⟩ dX5_init_1 ?_
  refine kw_aload_n X dX5_init_4 rfl 0 rfl ?_
  refine kb_new (ci := 2) (fs := [.null]) X E inX2 tyX2 tyX2_ok gw_48 gw_49 gw_16 rfl (fun j hj => by rcases (show j = 0 by omega) with rfl <;> rfl) ⟨Nat.le_of_ble_eq_true rfl, Nat.le_of_ble_eq_true rfl⟩ dX5_init_5 (fun q1 => ?_)
  refine kw_weq (ws' := wj [[(h0, .inr (5, [.null, .null, .null, .null, .int 0]))], [(q1, .inr (2, [.null]))]]) rfl ?_
  refine kw_dup X dX5_init_8 rfl ?_
  refine kw_bipush X dX5_init_9 cb_60 ?_
  refine kw_iconst X dX5_init_11 ci_0 ?_
  obtain ⟨m3, hx3, hF⟩ := ob1_ex hF
  refine kb_in X (As := [.int 60, .int 0]) (st := [.ref q1, .ref h0]) E (c_X2_init l D cI cC cR q1 60 (by decide) (by decide) 60 0 cn_60.symm Z m3 hx3) vl_X5_11 yv_X2_init rfl ⟨Nat.le_of_ble_eq_true rfl, Nat.le_of_ble_eq_true rfl⟩ ⟨rfl, rfl⟩ ⟨Nat.le_of_ble_eq_true rfl, Nat.le_of_ble_eq_true rfl⟩ 1 rfl rfl rfl (Nat.le_of_ble_eq_true rfl) dX5_init_12 (fun x2 => ?_)
  refine kw_weq (ws' := wj [[(h0, .inr (5, [.null, .null, .null, .null, .int 0]))], wX2 cI q1 (x2 0) 60 m3]) rfl ?_
  refine kb_putF (t := tyX5 0) X E inX5 tyX5 tyX5_ok nmX5 0 0 rfl rfl rfl 0 (by decide) rfl KNh rfl gw_65 rfl (tyX5_ok 0 (by decide)) rfl rfl (Nat.le_of_ble_eq_true rfl) (bs' := [[(h0, .inr (5, [.ref q1, .null, .null, .null, .int 0]))], wX2 cI q1 (x2 0) 60 m3]) rfl dX5_init_15 ?_
  refine kw_aload_n X dX5_init_18 rfl 0 rfl ?_
  refine kb_new (ci := 2) (fs := [.null]) X E inX2 tyX2 tyX2_ok gw_48 gw_49 gw_16 rfl (fun j hj => by rcases (show j = 0 by omega) with rfl <;> rfl) ⟨Nat.le_of_ble_eq_true rfl, Nat.le_of_ble_eq_true rfl⟩ dX5_init_19 (fun q4 => ?_)
  refine kw_weq (ws' := wj [[(h0, .inr (5, [.ref q1, .null, .null, .null, .int 0]))], wX2 cI q1 (x2 0) 60 m3, [(q4, .inr (2, [.null]))]]) rfl ?_
  refine kw_dup X dX5_init_22 rfl ?_
  refine kw_bipush X dX5_init_23 cb_60 ?_
  refine kw_iconst X dX5_init_25 ci_0 ?_
  obtain ⟨m6, hx6, hF⟩ := ob1_ex hF
  refine kb_in X (As := [.int 60, .int 0]) (st := [.ref q4, .ref h0]) E (c_X2_init l D cI cC cR q4 60 (by decide) (by decide) 60 0 cn_60.symm Z m6 hx6) vl_X5_11 yv_X2_init rfl ⟨Nat.le_of_ble_eq_true rfl, Nat.le_of_ble_eq_true rfl⟩ ⟨rfl, rfl⟩ ⟨Nat.le_of_ble_eq_true rfl, Nat.le_of_ble_eq_true rfl⟩ 2 rfl rfl rfl (Nat.le_of_ble_eq_true rfl) dX5_init_26 (fun x5 => ?_)
  refine kw_weq (ws' := wj [[(h0, .inr (5, [.ref q1, .null, .null, .null, .int 0]))], wX2 cI q1 (x2 0) 60 m3, wX2 cI q4 (x5 0) 60 m6]) rfl ?_
  refine kb_putF (t := tyX5 1) X E inX5 tyX5 tyX5_ok nmX5 0 0 rfl rfl rfl 1 (by decide) rfl KNh rfl gw_68 rfl (tyX5_ok 1 (by decide)) rfl rfl (Nat.le_of_ble_eq_true rfl) (bs' := [[(h0, .inr (5, [.ref q1, .ref q4, .null, .null, .int 0]))], wX2 cI q1 (x2 0) 60 m3, wX2 cI q4 (x5 0) 60 m6]) rfl dX5_init_29 ?_
  refine kw_aload_n X dX5_init_32 rfl 0 rfl ?_
  refine kb_new (ci := 2) (fs := [.null]) X E inX2 tyX2 tyX2_ok gw_48 gw_49 gw_16 rfl (fun j hj => by rcases (show j = 0 by omega) with rfl <;> rfl) ⟨Nat.le_of_ble_eq_true rfl, Nat.le_of_ble_eq_true rfl⟩ dX5_init_33 (fun q7 => ?_)
  refine kw_weq (ws' := wj [[(h0, .inr (5, [.ref q1, .ref q4, .null, .null, .int 0]))], wX2 cI q1 (x2 0) 60 m3, wX2 cI q4 (x5 0) 60 m6, [(q7, .inr (2, [.null]))]]) rfl ?_
  refine kw_dup X dX5_init_36 rfl ?_
  refine kw_bipush X dX5_init_37 cb_60 ?_
  refine kw_iconst X dX5_init_39 ci_0 ?_
  obtain ⟨m9, hx9, hF⟩ := ob1_ex hF
  refine kb_in X (As := [.int 60, .int 0]) (st := [.ref q7, .ref h0]) E (c_X2_init l D cI cC cR q7 60 (by decide) (by decide) 60 0 cn_60.symm Z m9 hx9) vl_X5_11 yv_X2_init rfl ⟨Nat.le_of_ble_eq_true rfl, Nat.le_of_ble_eq_true rfl⟩ ⟨rfl, rfl⟩ ⟨Nat.le_of_ble_eq_true rfl, Nat.le_of_ble_eq_true rfl⟩ 3 rfl rfl rfl (Nat.le_of_ble_eq_true rfl) dX5_init_40 (fun x8 => ?_)
  refine kw_weq (ws' := wj [[(h0, .inr (5, [.ref q1, .ref q4, .null, .null, .int 0]))], wX2 cI q1 (x2 0) 60 m3, wX2 cI q4 (x5 0) 60 m6, wX2 cI q7 (x8 0) 60 m9]) rfl ?_
  refine kb_putF (t := tyX5 2) X E inX5 tyX5 tyX5_ok nmX5 0 0 rfl rfl rfl 2 (by decide) rfl KNh rfl gw_71 rfl (tyX5_ok 2 (by decide)) rfl rfl (Nat.le_of_ble_eq_true rfl) (bs' := [[(h0, .inr (5, [.ref q1, .ref q4, .ref q7, .null, .int 0]))], wX2 cI q1 (x2 0) 60 m3, wX2 cI q4 (x5 0) 60 m6, wX2 cI q7 (x8 0) 60 m9]) rfl dX5_init_43 ?_
  refine kw_aload_n X dX5_init_46 rfl 0 rfl ?_
  refine kb_new (ci := 2) (fs := [.null]) X E inX2 tyX2 tyX2_ok gw_48 gw_49 gw_16 rfl (fun j hj => by rcases (show j = 0 by omega) with rfl <;> rfl) ⟨Nat.le_of_ble_eq_true rfl, Nat.le_of_ble_eq_true rfl⟩ dX5_init_47 (fun q10 => ?_)
  refine kw_weq (ws' := wj [[(h0, .inr (5, [.ref q1, .ref q4, .ref q7, .null, .int 0]))], wX2 cI q1 (x2 0) 60 m3, wX2 cI q4 (x5 0) 60 m6, wX2 cI q7 (x8 0) 60 m9, [(q10, .inr (2, [.null]))]]) rfl ?_
  refine kw_dup X dX5_init_50 rfl ?_
  refine kw_bipush X dX5_init_51 cb_24 ?_
  refine kw_iconst X dX5_init_53 ci_0 ?_
  obtain ⟨m12, hx12, hF⟩ := ob1_ex hF
  refine kb_in X (As := [.int 24, .int 0]) (st := [.ref q10, .ref h0]) E (c_X2_init l D cI cC cR q10 24 (by decide) (by decide) 24 0 cn_24.symm Z m12 hx12) vl_X5_11 yv_X2_init rfl ⟨Nat.le_of_ble_eq_true rfl, Nat.le_of_ble_eq_true rfl⟩ ⟨rfl, rfl⟩ ⟨Nat.le_of_ble_eq_true rfl, Nat.le_of_ble_eq_true rfl⟩ 4 rfl rfl rfl (Nat.le_of_ble_eq_true rfl) dX5_init_54 (fun x11 => ?_)
  refine kw_weq (ws' := wj [[(h0, .inr (5, [.ref q1, .ref q4, .ref q7, .null, .int 0]))], wX2 cI q1 (x2 0) 60 m3, wX2 cI q4 (x5 0) 60 m6, wX2 cI q7 (x8 0) 60 m9, wX2 cI q10 (x11 0) 24 m12]) rfl ?_
  refine kb_putF (t := tyX5 3) X E inX5 tyX5 tyX5_ok nmX5 0 0 rfl rfl rfl 3 (by decide) rfl KNh rfl gw_74 rfl (tyX5_ok 3 (by decide)) rfl rfl (Nat.le_of_ble_eq_true rfl) (bs' := [[(h0, .inr (5, [.ref q1, .ref q4, .ref q7, .ref q10, .int 0]))], wX2 cI q1 (x2 0) 60 m3, wX2 cI q4 (x5 0) 60 m6, wX2 cI q7 (x8 0) 60 m9, wX2 cI q10 (x11 0) 24 m12]) rfl dX5_init_57 ?_
  obtain ⟨rfl, rfl, rfl, rfl⟩ := si4 hF
  exact hret (ad [q1, (x2 0), q4, (x5 0), q7, (x8 0), q10, (x11 0)]) _ _ dX5_init_60
-- X0_init
def f_X0_init_L100 : Nat → Int32 → (Nat → Int32) → Option ((Nat → Int32))
  | 0, _, _ => none
  | F + 1, v1_27, w28 => (if v1_27 < 12 then (f_X0_init_L100 F (v1_27 + 1) (f_X2_put 12 w28 v1_27 (v1_27 - v1_27 / 8 * 8))) else (some (w28)))
def f_X0_init (Z : Nat) : Option ((Nat → Int32) × (Nat → Int32) × (Nat → Int32) × (Nat → Int32) × (Nat → Int32) × (Nat → Int32) × (Nat → Int32) × (Nat → Int32) × (Nat → Int32)) :=
  (ob4 (f_X5_init Z) (fun (m3 : Nat → Int32) (m4 : Nat → Int32) (m5 : Nat → Int32) (m6 : Nat → Int32) => (ob1 (f_X2_init Z 8 8) (fun (m9 : Nat → Int32) => (ob1 (f_X2_init Z 12 40) (fun (m12 : Nat → Int32) => (ob1 (f_X2_init Z 12 0) (fun (m15 : Nat → Int32) => (ob1 (f_X2_init Z 12 0) (fun (m18 : Nat → Int32) => (ob1 (f_X2_init Z 12 0) (fun (m21 : Nat → Int32) => (ob1 (f_X0_init_L100 Z 0 m18) (fun (w26 : Nat → Int32) => (some (m3, m4, m5, m6, m9, m12, m15, w26, m21))))))))))))))))
abbrev rm_X0_init : Room := { frames := 3, cells := 19, slots := 274, locals := 65 }
set_option maxHeartbeats 4000000 in
set_option maxRecDepth 100000 in
theorem c_X0_init (l : Launch) (D : va_G) (cI cC cR : ClassId) (h0 : Nat) (Z : Nat) (r0 : Nat → Int32) (r1 : Nat → Int32) (r2 : Nat → Int32) (r3 : Nat → Int32) (r4 : Nat → Int32) (r5 : Nat → Int32) (r6 : Nat → Int32) (r7 : Nat → Int32) (r8 : Nat → Int32) (hF : f_X0_init Z = some (r0, r1, r2, r3, r4, r5, r6, r7, r8)) : MNq l yX0_init cX0_init 2 none rm_X0_init D (TY cI cC cR) [.ref h0] (wj [[(h0, .inr (0, [.null, .null, .null, .null, .null, .null, .int 0, .int 0, .int 0, .int 0, .int 0, .int 0]))]]) (fun x => wX0 cI h0 (x 0) (x 1) (x 2) (x 3) (x 4) (x 5) (x 6) (x 7) (x 8) (x 9) (x 10) (x 11) (x 12) (x 13) (x 14) (x 15) (x 16) (x 17) (x 18) r0 r1 r2 r3 0 r4 r5 r6 r7 r8 0 100 0 0 0 1) 19 274 := by
  refine me_n pn_X0 rfl (Nat.le_of_ble_eq_true rfl) rfl (fun Γ X E KNh hret => ?_)
  unfold f_X0_init at hF
  refine kw_aload_n X dX0_init_0 rfl 0 rfl ?_
  refine kb_obj X gw_41 gw_28 gw_29 ⟨Nat.le_of_ble_eq_true rfl, Nat.le_of_ble_eq_true rfl⟩ dX0_init_1 ?_
  refine kw_aload_n X dX0_init_4 rfl 0 rfl ?_
  refine kb_new (ci := 5) (fs := [.null, .null, .null, .null, .int 0]) X E inX5 tyX5 tyX5_ok gw_42 gw_43 gw_15 rfl (fun j hj => by rcases (show j = 0 ∨ j = 1 ∨ j = 2 ∨ j = 3 ∨ j = 4 by omega) with rfl | rfl | rfl | rfl | rfl <;> rfl) ⟨Nat.le_of_ble_eq_true rfl, Nat.le_of_ble_eq_true rfl⟩ dX0_init_5 (fun q1 => ?_)
  refine kw_weq (ws' := wj [[(h0, .inr (0, [.null, .null, .null, .null, .null, .null, .int 0, .int 0, .int 0, .int 0, .int 0, .int 0]))], [(q1, .inr (5, [.null, .null, .null, .null, .int 0]))]]) rfl ?_
  refine kw_dup X dX0_init_8 rfl ?_
  obtain ⟨m3, m4, m5, m6, hx6, hF⟩ := ob4_ex hF
  refine kb_inN X (As := []) (st := [.ref q1, .ref h0]) E (c_X5_init l D cI cC cR q1 Z m3 m4 m5 m6 hx6) nw_1 vn_X0_11 yv_X5_init rfl ⟨Nat.le_of_ble_eq_true rfl, Nat.le_of_ble_eq_true rfl⟩ ⟨rfl, rfl⟩ ⟨Nat.le_of_ble_eq_true rfl, Nat.le_of_ble_eq_true rfl⟩ 1 rfl rfl rfl (Nat.le_of_ble_eq_true rfl) dX0_init_9 (fun x2 => ?_)
  refine kw_weq (ws' := wj [[(h0, .inr (0, [.null, .null, .null, .null, .null, .null, .int 0, .int 0, .int 0, .int 0, .int 0, .int 0]))], wX5 cI q1 (x2 0) (x2 1) (x2 2) (x2 3) (x2 4) (x2 5) (x2 6) (x2 7) m3 m4 m5 m6 0]) rfl ?_
  refine kb_putF (t := tyX0 0) X E inX0 tyX0 tyX0_ok nmX0 0 0 rfl rfl rfl 0 (by decide) rfl KNh rfl gw_95 rfl (tyX0_ok 0 (by decide)) rfl rfl (Nat.le_of_ble_eq_true rfl) (bs' := [[(h0, .inr (0, [.ref q1, .null, .null, .null, .null, .null, .int 0, .int 0, .int 0, .int 0, .int 0, .int 0]))], wX5 cI q1 (x2 0) (x2 1) (x2 2) (x2 3) (x2 4) (x2 5) (x2 6) (x2 7) m3 m4 m5 m6 0]) rfl dX0_init_12 ?_
  refine kw_aload_n X dX0_init_15 rfl 0 rfl ?_
  refine kb_new (ci := 2) (fs := [.null]) X E inX2 tyX2 tyX2_ok gw_89 gw_49 gw_16 rfl (fun j hj => by rcases (show j = 0 by omega) with rfl <;> rfl) ⟨Nat.le_of_ble_eq_true rfl, Nat.le_of_ble_eq_true rfl⟩ dX0_init_16 (fun q7 => ?_)
  refine kw_weq (ws' := wj [[(h0, .inr (0, [.ref q1, .null, .null, .null, .null, .null, .int 0, .int 0, .int 0, .int 0, .int 0, .int 0]))], wX5 cI q1 (x2 0) (x2 1) (x2 2) (x2 3) (x2 4) (x2 5) (x2 6) (x2 7) m3 m4 m5 m6 0, [(q7, .inr (2, [.null]))]]) rfl ?_
  refine kw_dup X dX0_init_19 rfl ?_
  refine kw_bipush X dX0_init_20 cb_8 ?_
  refine kw_bipush X dX0_init_22 cb_8 ?_
  obtain ⟨m9, hx9, hF⟩ := ob1_ex hF
  refine kb_in X (As := [.int 8, .int 8]) (st := [.ref q7, .ref h0]) E (c_X2_init l D cI cC cR q7 8 (by decide) (by decide) 8 8 cn_8.symm Z m9 hx9) vl_X0_20 yv_X2_init rfl ⟨Nat.le_of_ble_eq_true rfl, Nat.le_of_ble_eq_true rfl⟩ ⟨rfl, rfl⟩ ⟨Nat.le_of_ble_eq_true rfl, Nat.le_of_ble_eq_true rfl⟩ 2 rfl rfl rfl (Nat.le_of_ble_eq_true rfl) dX0_init_24 (fun x8 => ?_)
  refine kw_weq (ws' := wj [[(h0, .inr (0, [.ref q1, .null, .null, .null, .null, .null, .int 0, .int 0, .int 0, .int 0, .int 0, .int 0]))], wX5 cI q1 (x2 0) (x2 1) (x2 2) (x2 3) (x2 4) (x2 5) (x2 6) (x2 7) m3 m4 m5 m6 0, wX2 cI q7 (x8 0) 8 m9]) rfl ?_
  refine kb_putF (t := tyX0 1) X E inX0 tyX0 tyX0_ok nmX0 0 0 rfl rfl rfl 1 (by decide) rfl KNh rfl gw_97 rfl (tyX0_ok 1 (by decide)) rfl rfl (Nat.le_of_ble_eq_true rfl) (bs' := [[(h0, .inr (0, [.ref q1, .ref q7, .null, .null, .null, .null, .int 0, .int 0, .int 0, .int 0, .int 0, .int 0]))], wX5 cI q1 (x2 0) (x2 1) (x2 2) (x2 3) (x2 4) (x2 5) (x2 6) (x2 7) m3 m4 m5 m6 0, wX2 cI q7 (x8 0) 8 m9]) rfl dX0_init_27 ?_
  refine kw_aload_n X dX0_init_30 rfl 0 rfl ?_
  refine kb_new (ci := 2) (fs := [.null]) X E inX2 tyX2 tyX2_ok gw_89 gw_49 gw_16 rfl (fun j hj => by rcases (show j = 0 by omega) with rfl <;> rfl) ⟨Nat.le_of_ble_eq_true rfl, Nat.le_of_ble_eq_true rfl⟩ dX0_init_31 (fun q10 => ?_)
  refine kw_weq (ws' := wj [[(h0, .inr (0, [.ref q1, .ref q7, .null, .null, .null, .null, .int 0, .int 0, .int 0, .int 0, .int 0, .int 0]))], wX5 cI q1 (x2 0) (x2 1) (x2 2) (x2 3) (x2 4) (x2 5) (x2 6) (x2 7) m3 m4 m5 m6 0, wX2 cI q7 (x8 0) 8 m9, [(q10, .inr (2, [.null]))]]) rfl ?_
  refine kw_dup X dX0_init_34 rfl ?_
  refine kw_bipush X dX0_init_35 cb_12 ?_
  refine kw_bipush X dX0_init_37 cb_40 ?_
  obtain ⟨m12, hx12, hF⟩ := ob1_ex hF
  refine kb_in X (As := [.int 12, .int 40]) (st := [.ref q10, .ref h0]) E (c_X2_init l D cI cC cR q10 12 (by decide) (by decide) 12 40 cn_12.symm Z m12 hx12) vl_X0_20 yv_X2_init rfl ⟨Nat.le_of_ble_eq_true rfl, Nat.le_of_ble_eq_true rfl⟩ ⟨rfl, rfl⟩ ⟨Nat.le_of_ble_eq_true rfl, Nat.le_of_ble_eq_true rfl⟩ 3 rfl rfl rfl (Nat.le_of_ble_eq_true rfl) dX0_init_39 (fun x11 => ?_)
  refine kw_weq (ws' := wj [[(h0, .inr (0, [.ref q1, .ref q7, .null, .null, .null, .null, .int 0, .int 0, .int 0, .int 0, .int 0, .int 0]))], wX5 cI q1 (x2 0) (x2 1) (x2 2) (x2 3) (x2 4) (x2 5) (x2 6) (x2 7) m3 m4 m5 m6 0, wX2 cI q7 (x8 0) 8 m9, wX2 cI q10 (x11 0) 12 m12]) rfl ?_
  refine kb_putF (t := tyX0 2) X E inX0 tyX0 tyX0_ok nmX0 0 0 rfl rfl rfl 2 (by decide) rfl KNh rfl gw_99 rfl (tyX0_ok 2 (by decide)) rfl rfl (Nat.le_of_ble_eq_true rfl) (bs' := [[(h0, .inr (0, [.ref q1, .ref q7, .ref q10, .null, .null, .null, .int 0, .int 0, .int 0, .int 0, .int 0, .int 0]))], wX5 cI q1 (x2 0) (x2 1) (x2 2) (x2 3) (x2 4) (x2 5) (x2 6) (x2 7) m3 m4 m5 m6 0, wX2 cI q7 (x8 0) 8 m9, wX2 cI q10 (x11 0) 12 m12]) rfl dX0_init_42 ?_
  refine kw_aload_n X dX0_init_45 rfl 0 rfl ?_
  refine kb_new (ci := 2) (fs := [.null]) X E inX2 tyX2 tyX2_ok gw_89 gw_49 gw_16 rfl (fun j hj => by rcases (show j = 0 by omega) with rfl <;> rfl) ⟨Nat.le_of_ble_eq_true rfl, Nat.le_of_ble_eq_true rfl⟩ dX0_init_46 (fun q13 => ?_)
  refine kw_weq (ws' := wj [[(h0, .inr (0, [.ref q1, .ref q7, .ref q10, .null, .null, .null, .int 0, .int 0, .int 0, .int 0, .int 0, .int 0]))], wX5 cI q1 (x2 0) (x2 1) (x2 2) (x2 3) (x2 4) (x2 5) (x2 6) (x2 7) m3 m4 m5 m6 0, wX2 cI q7 (x8 0) 8 m9, wX2 cI q10 (x11 0) 12 m12, [(q13, .inr (2, [.null]))]]) rfl ?_
  refine kw_dup X dX0_init_49 rfl ?_
  refine kw_bipush X dX0_init_50 cb_12 ?_
  refine kw_iconst X dX0_init_52 ci_0 ?_
  obtain ⟨m15, hx15, hF⟩ := ob1_ex hF
  refine kb_in X (As := [.int 12, .int 0]) (st := [.ref q13, .ref h0]) E (c_X2_init l D cI cC cR q13 12 (by decide) (by decide) 12 0 cn_12.symm Z m15 hx15) vl_X0_20 yv_X2_init rfl ⟨Nat.le_of_ble_eq_true rfl, Nat.le_of_ble_eq_true rfl⟩ ⟨rfl, rfl⟩ ⟨Nat.le_of_ble_eq_true rfl, Nat.le_of_ble_eq_true rfl⟩ 4 rfl rfl rfl (Nat.le_of_ble_eq_true rfl) dX0_init_53 (fun x14 => ?_)
  refine kw_weq (ws' := wj [[(h0, .inr (0, [.ref q1, .ref q7, .ref q10, .null, .null, .null, .int 0, .int 0, .int 0, .int 0, .int 0, .int 0]))], wX5 cI q1 (x2 0) (x2 1) (x2 2) (x2 3) (x2 4) (x2 5) (x2 6) (x2 7) m3 m4 m5 m6 0, wX2 cI q7 (x8 0) 8 m9, wX2 cI q10 (x11 0) 12 m12, wX2 cI q13 (x14 0) 12 m15]) rfl ?_
  refine kb_putF (t := tyX0 3) X E inX0 tyX0 tyX0_ok nmX0 0 0 rfl rfl rfl 3 (by decide) rfl KNh rfl gw_101 rfl (tyX0_ok 3 (by decide)) rfl rfl (Nat.le_of_ble_eq_true rfl) (bs' := [[(h0, .inr (0, [.ref q1, .ref q7, .ref q10, .ref q13, .null, .null, .int 0, .int 0, .int 0, .int 0, .int 0, .int 0]))], wX5 cI q1 (x2 0) (x2 1) (x2 2) (x2 3) (x2 4) (x2 5) (x2 6) (x2 7) m3 m4 m5 m6 0, wX2 cI q7 (x8 0) 8 m9, wX2 cI q10 (x11 0) 12 m12, wX2 cI q13 (x14 0) 12 m15]) rfl dX0_init_56 ?_
  refine kw_aload_n X dX0_init_59 rfl 0 rfl ?_
  refine kb_new (ci := 2) (fs := [.null]) X E inX2 tyX2 tyX2_ok gw_89 gw_49 gw_16 rfl (fun j hj => by rcases (show j = 0 by omega) with rfl <;> rfl) ⟨Nat.le_of_ble_eq_true rfl, Nat.le_of_ble_eq_true rfl⟩ dX0_init_60 (fun q16 => ?_)
  refine kw_weq (ws' := wj [[(h0, .inr (0, [.ref q1, .ref q7, .ref q10, .ref q13, .null, .null, .int 0, .int 0, .int 0, .int 0, .int 0, .int 0]))], wX5 cI q1 (x2 0) (x2 1) (x2 2) (x2 3) (x2 4) (x2 5) (x2 6) (x2 7) m3 m4 m5 m6 0, wX2 cI q7 (x8 0) 8 m9, wX2 cI q10 (x11 0) 12 m12, wX2 cI q13 (x14 0) 12 m15, [(q16, .inr (2, [.null]))]]) rfl ?_
  refine kw_dup X dX0_init_63 rfl ?_
  refine kw_bipush X dX0_init_64 cb_12 ?_
  refine kw_iconst X dX0_init_66 ci_0 ?_
  obtain ⟨m18, hx18, hF⟩ := ob1_ex hF
  refine kb_in X (As := [.int 12, .int 0]) (st := [.ref q16, .ref h0]) E (c_X2_init l D cI cC cR q16 12 (by decide) (by decide) 12 0 cn_12.symm Z m18 hx18) vl_X0_20 yv_X2_init rfl ⟨Nat.le_of_ble_eq_true rfl, Nat.le_of_ble_eq_true rfl⟩ ⟨rfl, rfl⟩ ⟨Nat.le_of_ble_eq_true rfl, Nat.le_of_ble_eq_true rfl⟩ 5 rfl rfl rfl (Nat.le_of_ble_eq_true rfl) dX0_init_67 (fun x17 => ?_)
  refine kw_weq (ws' := wj [[(h0, .inr (0, [.ref q1, .ref q7, .ref q10, .ref q13, .null, .null, .int 0, .int 0, .int 0, .int 0, .int 0, .int 0]))], wX5 cI q1 (x2 0) (x2 1) (x2 2) (x2 3) (x2 4) (x2 5) (x2 6) (x2 7) m3 m4 m5 m6 0, wX2 cI q7 (x8 0) 8 m9, wX2 cI q10 (x11 0) 12 m12, wX2 cI q13 (x14 0) 12 m15, wX2 cI q16 (x17 0) 12 m18]) rfl ?_
  refine kb_putF (t := tyX0 4) X E inX0 tyX0 tyX0_ok nmX0 0 0 rfl rfl rfl 4 (by decide) rfl KNh rfl gw_103 rfl (tyX0_ok 4 (by decide)) rfl rfl (Nat.le_of_ble_eq_true rfl) (bs' := [[(h0, .inr (0, [.ref q1, .ref q7, .ref q10, .ref q13, .ref q16, .null, .int 0, .int 0, .int 0, .int 0, .int 0, .int 0]))], wX5 cI q1 (x2 0) (x2 1) (x2 2) (x2 3) (x2 4) (x2 5) (x2 6) (x2 7) m3 m4 m5 m6 0, wX2 cI q7 (x8 0) 8 m9, wX2 cI q10 (x11 0) 12 m12, wX2 cI q13 (x14 0) 12 m15, wX2 cI q16 (x17 0) 12 m18]) rfl dX0_init_70 ?_
  refine kw_aload_n X dX0_init_73 rfl 0 rfl ?_
  refine kb_new (ci := 2) (fs := [.null]) X E inX2 tyX2 tyX2_ok gw_89 gw_49 gw_16 rfl (fun j hj => by rcases (show j = 0 by omega) with rfl <;> rfl) ⟨Nat.le_of_ble_eq_true rfl, Nat.le_of_ble_eq_true rfl⟩ dX0_init_74 (fun q19 => ?_)
  refine kw_weq (ws' := wj [[(h0, .inr (0, [.ref q1, .ref q7, .ref q10, .ref q13, .ref q16, .null, .int 0, .int 0, .int 0, .int 0, .int 0, .int 0]))], wX5 cI q1 (x2 0) (x2 1) (x2 2) (x2 3) (x2 4) (x2 5) (x2 6) (x2 7) m3 m4 m5 m6 0, wX2 cI q7 (x8 0) 8 m9, wX2 cI q10 (x11 0) 12 m12, wX2 cI q13 (x14 0) 12 m15, wX2 cI q16 (x17 0) 12 m18, [(q19, .inr (2, [.null]))]]) rfl ?_
  refine kw_dup X dX0_init_77 rfl ?_
  refine kw_bipush X dX0_init_78 cb_12 ?_
  refine kw_iconst X dX0_init_80 ci_0 ?_
  obtain ⟨m21, hx21, hF⟩ := ob1_ex hF
  refine kb_in X (As := [.int 12, .int 0]) (st := [.ref q19, .ref h0]) E (c_X2_init l D cI cC cR q19 12 (by decide) (by decide) 12 0 cn_12.symm Z m21 hx21) vl_X0_20 yv_X2_init rfl ⟨Nat.le_of_ble_eq_true rfl, Nat.le_of_ble_eq_true rfl⟩ ⟨rfl, rfl⟩ ⟨Nat.le_of_ble_eq_true rfl, Nat.le_of_ble_eq_true rfl⟩ 6 rfl rfl rfl (Nat.le_of_ble_eq_true rfl) dX0_init_81 (fun x20 => ?_)
  refine kw_weq (ws' := wj [[(h0, .inr (0, [.ref q1, .ref q7, .ref q10, .ref q13, .ref q16, .null, .int 0, .int 0, .int 0, .int 0, .int 0, .int 0]))], wX5 cI q1 (x2 0) (x2 1) (x2 2) (x2 3) (x2 4) (x2 5) (x2 6) (x2 7) m3 m4 m5 m6 0, wX2 cI q7 (x8 0) 8 m9, wX2 cI q10 (x11 0) 12 m12, wX2 cI q13 (x14 0) 12 m15, wX2 cI q16 (x17 0) 12 m18, wX2 cI q19 (x20 0) 12 m21]) rfl ?_
  refine kb_putF (t := tyX0 5) X E inX0 tyX0 tyX0_ok nmX0 0 0 rfl rfl rfl 5 (by decide) rfl KNh rfl gw_105 rfl (tyX0_ok 5 (by decide)) rfl rfl (Nat.le_of_ble_eq_true rfl) (bs' := [[(h0, .inr (0, [.ref q1, .ref q7, .ref q10, .ref q13, .ref q16, .ref q19, .int 0, .int 0, .int 0, .int 0, .int 0, .int 0]))], wX5 cI q1 (x2 0) (x2 1) (x2 2) (x2 3) (x2 4) (x2 5) (x2 6) (x2 7) m3 m4 m5 m6 0, wX2 cI q7 (x8 0) 8 m9, wX2 cI q10 (x11 0) 12 m12, wX2 cI q13 (x14 0) 12 m15, wX2 cI q16 (x17 0) 12 m18, wX2 cI q19 (x20 0) 12 m21]) rfl dX0_init_84 ?_
  refine kw_aload_n X dX0_init_87 rfl 0 rfl ?_
  refine kw_bipush X dX0_init_88 cb_100 ?_
  refine kb_put X E inX0 tyX0 tyX0_ok nmX0 0 0 rfl rfl rfl 7 (by decide) rfl gw_109 rfl pfd_I (vp_nar_int _) rfl (Nat.le_of_ble_eq_true rfl) (bs' := [[(h0, .inr (0, [.ref q1, .ref q7, .ref q10, .ref q13, .ref q16, .ref q19, .int 0, .int 100, .int 0, .int 0, .int 0, .int 0]))], wX5 cI q1 (x2 0) (x2 1) (x2 2) (x2 3) (x2 4) (x2 5) (x2 6) (x2 7) m3 m4 m5 m6 0, wX2 cI q7 (x8 0) 8 m9, wX2 cI q10 (x11 0) 12 m12, wX2 cI q13 (x14 0) 12 m15, wX2 cI q16 (x17 0) 12 m18, wX2 cI q19 (x20 0) 12 m21]) rfl dX0_init_90 ?_
  refine kw_aload_n X dX0_init_93 rfl 0 rfl ?_
  refine kw_iconst X dX0_init_94 ci_1 ?_
  refine kb_put X E inX0 tyX0 tyX0_ok nmX0 0 0 rfl rfl rfl 11 (by decide) rfl gw_117 rfl pfd_I (vp_nar_int _) rfl (Nat.le_of_ble_eq_true rfl) (bs' := [[(h0, .inr (0, [.ref q1, .ref q7, .ref q10, .ref q13, .ref q16, .ref q19, .int 0, .int 100, .int 0, .int 0, .int 0, .int 1]))], wX5 cI q1 (x2 0) (x2 1) (x2 2) (x2 3) (x2 4) (x2 5) (x2 6) (x2 7) m3 m4 m5 m6 0, wX2 cI q7 (x8 0) 8 m9, wX2 cI q10 (x11 0) 12 m12, wX2 cI q13 (x14 0) 12 m15, wX2 cI q16 (x17 0) 12 m18, wX2 cI q19 (x20 0) 12 m21]) rfl dX0_init_95 ?_
  refine kw_iconst X dX0_init_98 ci_0 ?_
  refine kw_istore_n (lo' := [(0, .ref h0), (1, .int 0)]) X dX0_init_99 rfl (by decide) [1, 0] rfl ?_
  obtain ⟨w26, hx, hF⟩ := ob1_ex hF
  have J : KW Γ 19 274 (wj [[(h0, .inr (0, [.ref q1, .ref q7, .ref q10, .ref q13, .ref q16, .ref q19, .int 0, .int 100, .int 0, .int 0, .int 0, .int 1]))], wX5 cI q1 (x2 0) (x2 1) (x2 2) (x2 3) (x2 4) (x2 5) (x2 6) (x2 7) m3 m4 m5 m6 0, wX2 cI q7 (x8 0) 8 m9, wX2 cI q10 (x11 0) 12 m12, wX2 cI q13 (x14 0) 12 m15, wX2 cI q16 (x17 0) 12 w26, wX2 cI q19 (x20 0) 12 m21]) [] 124 [] := by
    obtain ⟨rfl, rfl, rfl, rfl, rfl, rfl, rfl, rfl, rfl⟩ := si9 hF
    exact hret (ad [q1, (x2 0), (x2 1), (x2 2), (x2 3), (x2 4), (x2 5), (x2 6), (x2 7), q7, (x8 0), q10, (x11 0), q13, (x14 0), q16, (x17 0), q19, (x20 0)]) _ _ dX0_init_124
  have hL100 : ∀ (F : Nat) (v1_27 : Int32) (w28 : Nat → Int32), f_X0_init_L100 F v1_27 w28 = some (w26) → KW Γ 19 274 (wj [[(h0, .inr (0, [.ref q1, .ref q7, .ref q10, .ref q13, .ref q16, .ref q19, .int 0, .int 100, .int 0, .int 0, .int 0, .int 1]))], wX5 cI q1 (x2 0) (x2 1) (x2 2) (x2 3) (x2 4) (x2 5) (x2 6) (x2 7) m3 m4 m5 m6 0, wX2 cI q7 (x8 0) 8 m9, wX2 cI q10 (x11 0) 12 m12, wX2 cI q13 (x14 0) 12 m15, wX2 cI q16 (x17 0) 12 w28, wX2 cI q19 (x20 0) 12 m21]) [(0, .ref h0), (1, .int v1_27)] 100 [] := by
    intro F
    induction F with
    | zero => intro v1_27 w28 hF; exact none_some hF
    | succ F ih100 =>
      intro v1_27 w28 hF
      rw [f_X0_init_L100] at hF
      refine kw_iload_n X dX0_init_100 rfl 1 rfl ?_
      refine kw_bipush X dX0_init_101 cb_12 ?_
      refine kw_icmp_ge X 124 dX0_init_103 (by decide) (fun q29 => ?_) (fun q29 => ?_)
      · replace hF := (if_neg q29).symm.trans hF
        refine kw_loc (lo' := []) [] rfl ?_
        obtain rfl := si1 hF
        exact J
      · replace hF := (if_pos q29).symm.trans hF
        refine kw_aload_n X dX0_init_106 rfl 0 rfl ?_
        refine kb_get X inX0 0 0 rfl rfl rfl 4 (by decide) rfl gw_103 rfl dX0_init_107 ?_
        refine kw_iload_n X dX0_init_110 rfl 1 rfl ?_
        refine kw_iload_n X dX0_init_111 rfl 1 rfl ?_
        refine kw_bipush X dX0_init_112 cb_8 ?_
        refine kw_irem X dX0_init_114 (by decide) ?_
        refine kb_aev X (As := [.int v1_27, .int (v1_27 - v1_27 / 8 * 8)]) (st := []) (bs' := [[(h0, .inr (0, [.ref q1, .ref q7, .ref q10, .ref q13, .ref q16, .ref q19, .int 0, .int 100, .int 0, .int 0, .int 0, .int 1]))], wX5 cI q1 (x2 0) (x2 1) (x2 2) (x2 3) (x2 4) (x2 5) (x2 6) (x2 7) m3 m4 m5 m6 0, wX2 cI q7 (x8 0) 8 m9, wX2 cI q10 (x11 0) 12 m12, wX2 cI q13 (x14 0) 12 m15, wX2 cI q16 (x17 0) 12 (f_X2_put 12 w28 v1_27 (v1_27 - v1_27 / 8 * 8)), wX2 cI q19 (x20 0) 12 m21]) E (c_X2_put l D cI cC cR q16 (x17 0) 12 (by decide) w28 v1_27 (v1_27 - v1_27 / 8 * 8) (f_X2_put 12 w28 v1_27 (v1_27 - v1_27 / 8 * 8)) rfl) vl_X0_46 yv_X2_put ⟨Nat.le_of_ble_eq_true rfl, Nat.le_of_ble_eq_true rfl⟩ ⟨rfl, rfl⟩ ⟨Nat.le_of_ble_eq_true rfl, Nat.le_of_ble_eq_true rfl⟩ 5 0 rfl rfl rfl rfl rfl (Nat.le_of_ble_eq_true rfl) dX0_init_115 [q16, (x17 0)] rfl rfl rfl ?_
        refine kw_iinc (lo' := [(0, .ref h0), (1, .int (v1_27 + 1))]) X dX0_init_118 1 rfl (congrArg (fun w => v1_27 + w) ci_1) (by decide) [1, 0] rfl ?_
        refine kw_goto X 100 dX0_init_121 (by decide) ?_
        exact ih100 _ _ hF
  exact hL100 Z _ _ hx
-- X4_init
abbrev rm_X4_init : Room := { frames := 1, cells := 1, slots := 80, locals := 20 }
set_option maxHeartbeats 4000000 in
set_option maxRecDepth 100000 in
theorem c_X4_init (l : Launch) (D : va_G) (cI cC cR : ClassId) (h0 : Nat) : MNq l yX4_init cX4_init 1 none rm_X4_init D (TY cI cC cR) [.ref h0] (wj [[(h0, .inr (4, [.null, .int 0, .int 0, .int 0, .int 0, .int 0]))]]) (fun x => wX4 cC h0 (x 0) (fun _ => 0) 0 0 0 0 0) 1 80 := by
  refine me_n pn_X4 rfl (Nat.le_of_ble_eq_true rfl) rfl (fun Γ X E KNh hret => ?_)
  refine kw_aload_n X dX4_init_0 rfl 0 rfl ?_
  refine kb_obj X gw_186 gw_28 gw_29 ⟨Nat.le_of_ble_eq_true rfl, Nat.le_of_ble_eq_true rfl⟩ dX4_init_1 ?_
  refine kw_aload_n X dX4_init_4 rfl 0 rfl ?_
  refine kw_bipush X dX4_init_5 cb_80 ?_
  refine kb_newa (atype := .char) (N := 80) X E gw_202 rfl (t0 := 1) rfl (fun C h => by cases h) rfl (by decide) (by decide) (Nat.le_of_ble_eq_true rfl) ⟨Nat.le_of_ble_eq_true rfl, Nat.le_of_ble_eq_true rfl⟩ dX4_init_7 (fun q1 => ?_)
  refine kw_weq (ws' := wj [[(h0, .inr (4, [.null, .int 0, .int 0, .int 0, .int 0, .int 0]))], [(q1, .inl (cC, 80, .inl (fun _ => 0)))]]) rfl ?_
  refine kb_putF (t := tyX4 0) X E inX4 tyX4 tyX4_ok nmX4 0 0 rfl rfl rfl 0 (by decide) rfl KNh rfl gw_187 rfl (tyX4_ok 0 (by decide)) rfl rfl (Nat.le_of_ble_eq_true rfl) (bs' := [[(h0, .inr (4, [.ref q1, .int 0, .int 0, .int 0, .int 0, .int 0]))], [(q1, .inl (cC, 80, .inl (fun _ => 0)))]]) rfl dX4_init_9 ?_
  exact hret (ad [q1]) _ _ dX4_init_12
theorem ci_X0 (l : Launch) (D : va_G) (cI cC cR : ClassId) (Z : Nat) (r0 : Nat → Int32) (r1 : Nat → Int32) (r2 : Nat → Int32) (r3 : Nat → Int32) (r4 : Nat → Int32) (r5 : Nat → Int32) (r6 : Nat → Int32) (r7 : Nat → Int32) (r8 : Nat → Int32) (hC : f_X0_init Z = some (r0, r1, r2, r3, r4, r5, r6, r7, r8)) (h0 : Nat) : MNq l yX0_init cX0_init 2 none rm_X0_init D (TY cI cC cR) [.ref h0] (wj [[(h0, .inr (0, [.null, .null, .null, .null, .null, .null, .int 0, .int 0, .int 0, .int 0, .int 0, .int 0]))]]) (fun x => bC cI (nc h0 x) (r0, r1, r2, r3, 0, r4, r5, r6, r7, r8, 0, 100, 0, 0, 0, 1)) 19 274 :=
  c_X0_init l D cI cC cR h0 Z r0 r1 r2 r3 r4 r5 r6 r7 r8 hC
-- X3_init
abbrev rm_X3_init : Room := { frames := 4, cells := 60, slots := 858, locals := 86 }
set_option maxHeartbeats 4000000 in
set_option maxRecDepth 100000 in
theorem ci_X3 (l : Launch) (D : va_G) (cI cC cR : ClassId) (Z : Nat) (r0 : Nat → Int32) (r1 : Nat → Int32) (r2 : Nat → Int32) (r3 : Nat → Int32) (r4 : Nat → Int32) (r5 : Nat → Int32) (r6 : Nat → Int32) (r7 : Nat → Int32) (r8 : Nat → Int32) (hC : f_X0_init Z = some (r0, r1, r2, r3, r4, r5, r6, r7, r8)) (h0 : Nat) : MNq l yX3_init cX3_init 1 none rm_X3_init D (TY cI cC cR) [.ref h0] (wj [[(h0, .inr (3, [.null, .null, .null, .int 0, .int 0]))]]) (fun x => wj [[(h0, .inr (3, [.ref (sh x 0 0), .ref (sh x 20 0), .ref (sh x 40 0), .int 0, .int 0]))], bC cI (sh x 0) (r0, r1, r2, r3, 0, r4, r5, r6, r7, r8, 0, 100, 0, 0, 0, 1), bC cI (sh x 20) (r0, r1, r2, r3, 0, r4, r5, r6, r7, r8, 0, 100, 0, 0, 0, 1), bC cI (sh x 40) (r0, r1, r2, r3, 0, r4, r5, r6, r7, r8, 0, 100, 0, 0, 0, 1)]) 60 858 := by
  refine me_n pn_X3 rfl (Nat.le_of_ble_eq_true rfl) rfl (fun Γ X E KNh hret => ?_)
  refine kw_aload_n X dX3_init_0 rfl 0 rfl ?_
  refine kb_obj X gw_35 gw_28 gw_29 ⟨Nat.le_of_ble_eq_true rfl, Nat.le_of_ble_eq_true rfl⟩ dX3_init_1 ?_
  refine kw_aload_n X dX3_init_4 rfl 0 rfl ?_
  refine kb_new (ci := 0) (fs := [.null, .null, .null, .null, .null, .null, .int 0, .int 0, .int 0, .int 0, .int 0, .int 0]) X E inX0 tyX0 tyX0_ok gw_36 gw_37 gw_14 rfl (fun j hj => by rcases (show j = 0 ∨ j = 1 ∨ j = 2 ∨ j = 3 ∨ j = 4 ∨ j = 5 ∨ j = 6 ∨ j = 7 ∨ j = 8 ∨ j = 9 ∨ j = 10 ∨ j = 11 by omega) with rfl | rfl | rfl | rfl | rfl | rfl | rfl | rfl | rfl | rfl | rfl | rfl <;> rfl) ⟨Nat.le_of_ble_eq_true rfl, Nat.le_of_ble_eq_true rfl⟩ dX3_init_5 (fun q1 => ?_)
  refine kw_weq (ws' := wj [[(h0, .inr (3, [.null, .null, .null, .int 0, .int 0]))], [(q1, .inr (0, [.null, .null, .null, .null, .null, .null, .int 0, .int 0, .int 0, .int 0, .int 0, .int 0]))]]) rfl ?_
  refine kw_dup X dX3_init_8 rfl ?_
  refine kb_in X (As := []) (st := [.ref q1, .ref h0]) E (ci_X0 l D cI cC cR Z r0 r1 r2 r3 r4 r5 r6 r7 r8 hC q1) vl_X3_9 yv_X0_init rfl ⟨Nat.le_of_ble_eq_true rfl, Nat.le_of_ble_eq_true rfl⟩ ⟨rfl, rfl⟩ ⟨Nat.le_of_ble_eq_true rfl, Nat.le_of_ble_eq_true rfl⟩ 1 rfl rfl rfl (Nat.le_of_ble_eq_true rfl) dX3_init_9 (fun x2 => ?_)
  refine kw_weq (ws' := wj [[(h0, .inr (3, [.null, .null, .null, .int 0, .int 0]))], bC cI (nc q1 x2) (r0, r1, r2, r3, 0, r4, r5, r6, r7, r8, 0, 100, 0, 0, 0, 1)]) rfl ?_
  refine kb_putF (t := tyX3 0) X E inX3 tyX3 tyX3_ok nmX3 0 0 rfl rfl rfl 0 (by decide) rfl KNh rfl gw_144 rfl (tyX3_ok 0 (by decide)) rfl rfl (Nat.le_of_ble_eq_true rfl) (bs' := [[(h0, .inr (3, [.ref q1, .null, .null, .int 0, .int 0]))], bC cI (nc q1 x2) (r0, r1, r2, r3, 0, r4, r5, r6, r7, r8, 0, 100, 0, 0, 0, 1)]) rfl dX3_init_12 ?_
  refine kw_aload_n X dX3_init_15 rfl 0 rfl ?_
  refine kb_new (ci := 0) (fs := [.null, .null, .null, .null, .null, .null, .int 0, .int 0, .int 0, .int 0, .int 0, .int 0]) X E inX0 tyX0 tyX0_ok gw_36 gw_37 gw_14 rfl (fun j hj => by rcases (show j = 0 ∨ j = 1 ∨ j = 2 ∨ j = 3 ∨ j = 4 ∨ j = 5 ∨ j = 6 ∨ j = 7 ∨ j = 8 ∨ j = 9 ∨ j = 10 ∨ j = 11 by omega) with rfl | rfl | rfl | rfl | rfl | rfl | rfl | rfl | rfl | rfl | rfl | rfl <;> rfl) ⟨Nat.le_of_ble_eq_true rfl, Nat.le_of_ble_eq_true rfl⟩ dX3_init_16 (fun q3 => ?_)
  refine kw_weq (ws' := wj [[(h0, .inr (3, [.ref q1, .null, .null, .int 0, .int 0]))], bC cI (nc q1 x2) (r0, r1, r2, r3, 0, r4, r5, r6, r7, r8, 0, 100, 0, 0, 0, 1), [(q3, .inr (0, [.null, .null, .null, .null, .null, .null, .int 0, .int 0, .int 0, .int 0, .int 0, .int 0]))]]) rfl ?_
  refine kw_dup X dX3_init_19 rfl ?_
  refine kb_in X (As := []) (st := [.ref q3, .ref h0]) E (ci_X0 l D cI cC cR Z r0 r1 r2 r3 r4 r5 r6 r7 r8 hC q3) vl_X3_9 yv_X0_init rfl ⟨Nat.le_of_ble_eq_true rfl, Nat.le_of_ble_eq_true rfl⟩ ⟨rfl, rfl⟩ ⟨Nat.le_of_ble_eq_true rfl, Nat.le_of_ble_eq_true rfl⟩ 2 rfl rfl rfl (Nat.le_of_ble_eq_true rfl) dX3_init_20 (fun x4 => ?_)
  refine kw_weq (ws' := wj [[(h0, .inr (3, [.ref q1, .null, .null, .int 0, .int 0]))], bC cI (nc q1 x2) (r0, r1, r2, r3, 0, r4, r5, r6, r7, r8, 0, 100, 0, 0, 0, 1), bC cI (nc q3 x4) (r0, r1, r2, r3, 0, r4, r5, r6, r7, r8, 0, 100, 0, 0, 0, 1)]) rfl ?_
  refine kb_putF (t := tyX3 1) X E inX3 tyX3 tyX3_ok nmX3 0 0 rfl rfl rfl 1 (by decide) rfl KNh rfl gw_146 rfl (tyX3_ok 1 (by decide)) rfl rfl (Nat.le_of_ble_eq_true rfl) (bs' := [[(h0, .inr (3, [.ref q1, .ref q3, .null, .int 0, .int 0]))], bC cI (nc q1 x2) (r0, r1, r2, r3, 0, r4, r5, r6, r7, r8, 0, 100, 0, 0, 0, 1), bC cI (nc q3 x4) (r0, r1, r2, r3, 0, r4, r5, r6, r7, r8, 0, 100, 0, 0, 0, 1)]) rfl dX3_init_23 ?_
  refine kw_aload_n X dX3_init_26 rfl 0 rfl ?_
  refine kb_new (ci := 0) (fs := [.null, .null, .null, .null, .null, .null, .int 0, .int 0, .int 0, .int 0, .int 0, .int 0]) X E inX0 tyX0 tyX0_ok gw_36 gw_37 gw_14 rfl (fun j hj => by rcases (show j = 0 ∨ j = 1 ∨ j = 2 ∨ j = 3 ∨ j = 4 ∨ j = 5 ∨ j = 6 ∨ j = 7 ∨ j = 8 ∨ j = 9 ∨ j = 10 ∨ j = 11 by omega) with rfl | rfl | rfl | rfl | rfl | rfl | rfl | rfl | rfl | rfl | rfl | rfl <;> rfl) ⟨Nat.le_of_ble_eq_true rfl, Nat.le_of_ble_eq_true rfl⟩ dX3_init_27 (fun q5 => ?_)
  refine kw_weq (ws' := wj [[(h0, .inr (3, [.ref q1, .ref q3, .null, .int 0, .int 0]))], bC cI (nc q1 x2) (r0, r1, r2, r3, 0, r4, r5, r6, r7, r8, 0, 100, 0, 0, 0, 1), bC cI (nc q3 x4) (r0, r1, r2, r3, 0, r4, r5, r6, r7, r8, 0, 100, 0, 0, 0, 1), [(q5, .inr (0, [.null, .null, .null, .null, .null, .null, .int 0, .int 0, .int 0, .int 0, .int 0, .int 0]))]]) rfl ?_
  refine kw_dup X dX3_init_30 rfl ?_
  refine kb_in X (As := []) (st := [.ref q5, .ref h0]) E (ci_X0 l D cI cC cR Z r0 r1 r2 r3 r4 r5 r6 r7 r8 hC q5) vl_X3_9 yv_X0_init rfl ⟨Nat.le_of_ble_eq_true rfl, Nat.le_of_ble_eq_true rfl⟩ ⟨rfl, rfl⟩ ⟨Nat.le_of_ble_eq_true rfl, Nat.le_of_ble_eq_true rfl⟩ 3 rfl rfl rfl (Nat.le_of_ble_eq_true rfl) dX3_init_31 (fun x6 => ?_)
  refine kw_weq (ws' := wj [[(h0, .inr (3, [.ref q1, .ref q3, .null, .int 0, .int 0]))], bC cI (nc q1 x2) (r0, r1, r2, r3, 0, r4, r5, r6, r7, r8, 0, 100, 0, 0, 0, 1), bC cI (nc q3 x4) (r0, r1, r2, r3, 0, r4, r5, r6, r7, r8, 0, 100, 0, 0, 0, 1), bC cI (nc q5 x6) (r0, r1, r2, r3, 0, r4, r5, r6, r7, r8, 0, 100, 0, 0, 0, 1)]) rfl ?_
  refine kb_putF (t := tyX3 2) X E inX3 tyX3 tyX3_ok nmX3 0 0 rfl rfl rfl 2 (by decide) rfl KNh rfl gw_147 rfl (tyX3_ok 2 (by decide)) rfl rfl (Nat.le_of_ble_eq_true rfl) (bs' := [[(h0, .inr (3, [.ref q1, .ref q3, .ref q5, .int 0, .int 0]))], bC cI (nc q1 x2) (r0, r1, r2, r3, 0, r4, r5, r6, r7, r8, 0, 100, 0, 0, 0, 1), bC cI (nc q3 x4) (r0, r1, r2, r3, 0, r4, r5, r6, r7, r8, 0, 100, 0, 0, 0, 1), bC cI (nc q5 x6) (r0, r1, r2, r3, 0, r4, r5, r6, r7, r8, 0, 100, 0, 0, 0, 1)]) rfl dX3_init_34 ?_
  exact hret (j3 q1 x2 q3 x4 q5 x6) _ _ dX3_init_37
-- X1_init
def hadr (r : Nat) (q : Nat → Nat) (x : Nat → Nat → Nat) : Nat → Nat := fun i => if i = 0 then r else if (i - 1) % 61 = 0 then q ((i - 1) / 61) else x ((i - 1) / 61) ((i - 1) % 61 - 1)
abbrev rm_X1_init : Room := { frames := 5, cells := 306, slots := 4320, locals := 106 }
set_option maxHeartbeats 4000000 in
set_option maxRecDepth 100000 in
theorem ci_X1 (l : Launch) (D : va_G) (cI cC cR : ClassId) (Z : Nat) (r0 : Nat → Int32) (r1 : Nat → Int32) (r2 : Nat → Int32) (r3 : Nat → Int32) (r4 : Nat → Int32) (r5 : Nat → Int32) (r6 : Nat → Int32) (r7 : Nat → Int32) (r8 : Nat → Int32) (hC : f_X0_init Z = some (r0, r1, r2, r3, r4, r5, r6, r7, r8)) (h0 : Nat) : MNq l yX1_init cX1_init 2 none rm_X1_init D (TY cI cC cR) [.ref h0] (wj [[(h0, .inr (1, [.null, .int 0, .int 0]))]]) (fun x => bH cI cR (nc h0 x) (fun _ => ((r0, r1, r2, r3, 0, r4, r5, r6, r7, r8, 0, 100, 0, 0, 0, 1), (r0, r1, r2, r3, 0, r4, r5, r6, r7, r8, 0, 100, 0, 0, 0, 1), (r0, r1, r2, r3, 0, r4, r5, r6, r7, r8, 0, 100, 0, 0, 0, 1), 0, 0)) 0 0) 306 4320 := by
  refine me_n pn_X1 rfl (Nat.le_of_ble_eq_true rfl) rfl (fun Γ X E KNh hret => ?_)
  refine kw_aload_n X dX1_init_0 rfl 0 rfl ?_
  refine kb_obj X gw_166 gw_28 gw_29 ⟨Nat.le_of_ble_eq_true rfl, Nat.le_of_ble_eq_true rfl⟩ dX1_init_1 ?_
  refine kw_aload_n X dX1_init_4 rfl 0 rfl ?_
  refine kw_iconst X dX1_init_5 ci_5 ?_
  refine kb_newq (N := 5) X E gw_167 (t0 := 2) rfl (by decide) (by decide) (Nat.le_of_ble_eq_true rfl) ⟨Nat.le_of_ble_eq_true rfl, Nat.le_of_ble_eq_true rfl⟩ dX1_init_6 (fun q1 => ?_)
  refine kw_weq (ws' := wj [[(h0, .inr (1, [.null, .int 0, .int 0]))], [(q1, .inl (cR, 5, .inr (.inr (.inr (.inr (fun _ => none))))))]]) rfl ?_
  refine kb_putF (t := tyX1 0) X E inX1 tyX1 tyX1_ok nmX1 0 0 rfl rfl rfl 0 (by decide) rfl KNh rfl gw_170 rfl (tyX1_ok 0 (by decide)) rfl rfl (Nat.le_of_ble_eq_true rfl) (bs' := [[(h0, .inr (1, [.ref q1, .int 0, .int 0]))], [(q1, .inl (cR, 5, .inr (.inr (.inr (.inr (fun _ => none))))))]]) rfl dX1_init_9 ?_
  refine kw_iconst X dX1_init_12 ci_0 ?_
  refine kw_istore_n (lo' := [(0, .ref h0), (1, .int 0)]) X dX1_init_13 rfl (by decide) [1, 0] rfl ?_
  refine kw_iload_n X dX1_init_14 rfl 1 rfl ?_
  refine kw_aload_n X dX1_init_15 rfl 0 rfl ?_
  refine kb_get X inX1 0 0 rfl rfl rfl 0 (by decide) rfl gw_170 rfl dX1_init_16 ?_
  refine kb_alen (v := 5) X 1 0 2 rfl rfl rfl cn_5 dX1_init_19 ?_
  refine kw_icmp_ge X 42 dX1_init_20 (by decide) (fun q2 => ?_) (fun q2 => ?_)
  · exact absurd q2 (by decide)
  · refine kw_aload_n X dX1_init_23 rfl 0 rfl ?_
    refine kb_get X inX1 0 0 rfl rfl rfl 0 (by decide) rfl gw_170 rfl dX1_init_24 ?_
    refine kw_iload_n X dX1_init_27 rfl 1 rfl ?_
    refine kb_new (ci := 3) (fs := [.null, .null, .null, .int 0, .int 0]) X E inX3 tyX3 tyX3_ok gw_167 gw_31 gw_13 rfl (fun j hj => by rcases (show j = 0 ∨ j = 1 ∨ j = 2 ∨ j = 3 ∨ j = 4 by omega) with rfl | rfl | rfl | rfl | rfl <;> rfl) ⟨Nat.le_of_ble_eq_true rfl, Nat.le_of_ble_eq_true rfl⟩ dX1_init_28 (fun q3 => ?_)
    refine kw_weq (ws' := wj [[(h0, .inr (1, [.ref q1, .int 0, .int 0]))], [(q1, .inl (cR, 5, .inr (.inr (.inr (.inr (fun _ => none))))))], [(q3, .inr (3, [.null, .null, .null, .int 0, .int 0]))]]) rfl ?_
    refine kw_dup X dX1_init_31 rfl ?_
    refine kb_inN X (As := []) (st := [.ref q3, .int 0, .ref q1]) E (ci_X3 l D cI cC cR Z r0 r1 r2 r3 r4 r5 r6 r7 r8 hC q3) nw_23 vn_X1_17 yv_X3_init rfl ⟨Nat.le_of_ble_eq_true rfl, Nat.le_of_ble_eq_true rfl⟩ ⟨rfl, rfl⟩ ⟨Nat.le_of_ble_eq_true rfl, Nat.le_of_ble_eq_true rfl⟩ 2 rfl rfl rfl (Nat.le_of_ble_eq_true rfl) dX1_init_32 (fun x4 => ?_)
    refine kw_weq (ws' := wj [[(h0, .inr (1, [.ref q1, .int 0, .int 0]))], [(q1, .inl (cR, 5, .inr (.inr (.inr (.inr (fun _ => none))))))], [(q3, .inr (3, [.ref (sh x4 0 0), .ref (sh x4 20 0), .ref (sh x4 40 0), .int 0, .int 0]))], bC cI (sh x4 0) (r0, r1, r2, r3, 0, r4, r5, r6, r7, r8, 0, 100, 0, 0, 0, 1), bC cI (sh x4 20) (r0, r1, r2, r3, 0, r4, r5, r6, r7, r8, 0, 100, 0, 0, 0, 1), bC cI (sh x4 40) (r0, r1, r2, r3, 0, r4, r5, r6, r7, r8, 0, 100, 0, 0, 0, 1)]) (wj_last [[(h0, .inr (1, [.ref q1, .int 0, .int 0]))], [(q1, .inl (cR, 5, .inr (.inr (.inr (.inr (fun _ => none))))))]] [[(q3, .inr (3, [.ref (sh x4 0 0), .ref (sh x4 20 0), .ref (sh x4 40 0), .int 0, .int 0]))], bC cI (sh x4 0) (r0, r1, r2, r3, 0, r4, r5, r6, r7, r8, 0, 100, 0, 0, 0, 1), bC cI (sh x4 20) (r0, r1, r2, r3, 0, r4, r5, r6, r7, r8, 0, 100, 0, 0, 0, 1), bC cI (sh x4 40) (r0, r1, r2, r3, 0, r4, r5, r6, r7, r8, 0, 100, 0, 0, 0, 1)]) ?_
    refine kb_aast (r := (RX3, TX3, 5)) X (bs' := [[(h0, .inr (1, [.ref q1, .int 0, .int 0]))], [(q1, .inl (cR, 5, .inr (.inr (.inr (.inr (va_up (fun _ => none) (0 : Int32).toNatClampNeg (some q3)))))))], [(q3, .inr (3, [.ref (sh x4 0 0), .ref (sh x4 20 0), .ref (sh x4 40 0), .int 0, .int 0]))], bC cI (sh x4 0) (r0, r1, r2, r3, 0, r4, r5, r6, r7, r8, 0, 100, 0, 0, 0, 1), bC cI (sh x4 20) (r0, r1, r2, r3, 0, r4, r5, r6, r7, r8, 0, 100, 0, 0, 0, 1), bC cI (sh x4 40) (r0, r1, r2, r3, 0, r4, r5, r6, r7, r8, 0, 100, 0, 0, 0, 1)]) E 1 0 2 2 0 rfl rfl rfl rfl rfl rfl (vp_in_iff.mpr (by decide)) rfl dX1_init_35 ?_
    refine kw_iinc (lo' := [(0, .ref h0), (1, .int (0 + 1))]) X dX1_init_36 1 rfl (congrArg (fun w => 0 + w) ci_1) (by decide) [1, 0] rfl ?_
    refine kw_goto X 14 dX1_init_39 (by decide) ?_
    refine kw_iload_n X dX1_init_14 rfl 1 rfl ?_
    refine kw_aload_n X dX1_init_15 rfl 0 rfl ?_
    refine kb_get X inX1 0 0 rfl rfl rfl 0 (by decide) rfl gw_170 rfl dX1_init_16 ?_
    refine kb_alen (v := 5) X 1 0 2 rfl rfl rfl cn_5 dX1_init_19 ?_
    refine kw_icmp_ge X 42 dX1_init_20 (by decide) (fun q5 => ?_) (fun q5 => ?_)
    · exact absurd q5 (by decide)
    · refine kw_aload_n X dX1_init_23 rfl 0 rfl ?_
      refine kb_get X inX1 0 0 rfl rfl rfl 0 (by decide) rfl gw_170 rfl dX1_init_24 ?_
      refine kw_iload_n X dX1_init_27 rfl 1 rfl ?_
      refine kb_new (ci := 3) (fs := [.null, .null, .null, .int 0, .int 0]) X E inX3 tyX3 tyX3_ok gw_167 gw_31 gw_13 rfl (fun j hj => by rcases (show j = 0 ∨ j = 1 ∨ j = 2 ∨ j = 3 ∨ j = 4 by omega) with rfl | rfl | rfl | rfl | rfl <;> rfl) ⟨Nat.le_of_ble_eq_true rfl, Nat.le_of_ble_eq_true rfl⟩ dX1_init_28 (fun q6 => ?_)
      refine kw_weq (ws' := wj [[(h0, .inr (1, [.ref q1, .int 0, .int 0]))], [(q1, .inl (cR, 5, .inr (.inr (.inr (.inr (va_up (fun _ => none) (0 : Int32).toNatClampNeg (some q3)))))))], [(q3, .inr (3, [.ref (sh x4 0 0), .ref (sh x4 20 0), .ref (sh x4 40 0), .int 0, .int 0]))], bC cI (sh x4 0) (r0, r1, r2, r3, 0, r4, r5, r6, r7, r8, 0, 100, 0, 0, 0, 1), bC cI (sh x4 20) (r0, r1, r2, r3, 0, r4, r5, r6, r7, r8, 0, 100, 0, 0, 0, 1), bC cI (sh x4 40) (r0, r1, r2, r3, 0, r4, r5, r6, r7, r8, 0, 100, 0, 0, 0, 1), [(q6, .inr (3, [.null, .null, .null, .int 0, .int 0]))]]) rfl ?_
      refine kw_dup X dX1_init_31 rfl ?_
      refine kb_inN X (As := []) (st := [.ref q6, .int (0 + 1), .ref q1]) E (ci_X3 l D cI cC cR Z r0 r1 r2 r3 r4 r5 r6 r7 r8 hC q6) nw_23 vn_X1_17 yv_X3_init rfl ⟨Nat.le_of_ble_eq_true rfl, Nat.le_of_ble_eq_true rfl⟩ ⟨rfl, rfl⟩ ⟨Nat.le_of_ble_eq_true rfl, Nat.le_of_ble_eq_true rfl⟩ 6 rfl rfl rfl (Nat.le_of_ble_eq_true rfl) dX1_init_32 (fun x7 => ?_)
      refine kw_weq (ws' := wj [[(h0, .inr (1, [.ref q1, .int 0, .int 0]))], [(q1, .inl (cR, 5, .inr (.inr (.inr (.inr (va_up (fun _ => none) (0 : Int32).toNatClampNeg (some q3)))))))], [(q3, .inr (3, [.ref (sh x4 0 0), .ref (sh x4 20 0), .ref (sh x4 40 0), .int 0, .int 0]))], bC cI (sh x4 0) (r0, r1, r2, r3, 0, r4, r5, r6, r7, r8, 0, 100, 0, 0, 0, 1), bC cI (sh x4 20) (r0, r1, r2, r3, 0, r4, r5, r6, r7, r8, 0, 100, 0, 0, 0, 1), bC cI (sh x4 40) (r0, r1, r2, r3, 0, r4, r5, r6, r7, r8, 0, 100, 0, 0, 0, 1), [(q6, .inr (3, [.ref (sh x7 0 0), .ref (sh x7 20 0), .ref (sh x7 40 0), .int 0, .int 0]))], bC cI (sh x7 0) (r0, r1, r2, r3, 0, r4, r5, r6, r7, r8, 0, 100, 0, 0, 0, 1), bC cI (sh x7 20) (r0, r1, r2, r3, 0, r4, r5, r6, r7, r8, 0, 100, 0, 0, 0, 1), bC cI (sh x7 40) (r0, r1, r2, r3, 0, r4, r5, r6, r7, r8, 0, 100, 0, 0, 0, 1)]) (wj_last [[(h0, .inr (1, [.ref q1, .int 0, .int 0]))], [(q1, .inl (cR, 5, .inr (.inr (.inr (.inr (va_up (fun _ => none) (0 : Int32).toNatClampNeg (some q3)))))))], [(q3, .inr (3, [.ref (sh x4 0 0), .ref (sh x4 20 0), .ref (sh x4 40 0), .int 0, .int 0]))], bC cI (sh x4 0) (r0, r1, r2, r3, 0, r4, r5, r6, r7, r8, 0, 100, 0, 0, 0, 1), bC cI (sh x4 20) (r0, r1, r2, r3, 0, r4, r5, r6, r7, r8, 0, 100, 0, 0, 0, 1), bC cI (sh x4 40) (r0, r1, r2, r3, 0, r4, r5, r6, r7, r8, 0, 100, 0, 0, 0, 1)] [[(q6, .inr (3, [.ref (sh x7 0 0), .ref (sh x7 20 0), .ref (sh x7 40 0), .int 0, .int 0]))], bC cI (sh x7 0) (r0, r1, r2, r3, 0, r4, r5, r6, r7, r8, 0, 100, 0, 0, 0, 1), bC cI (sh x7 20) (r0, r1, r2, r3, 0, r4, r5, r6, r7, r8, 0, 100, 0, 0, 0, 1), bC cI (sh x7 40) (r0, r1, r2, r3, 0, r4, r5, r6, r7, r8, 0, 100, 0, 0, 0, 1)]) ?_
      refine kb_aast (r := (RX3, TX3, 5)) X (bs' := [[(h0, .inr (1, [.ref q1, .int 0, .int 0]))], [(q1, .inl (cR, 5, .inr (.inr (.inr (.inr (va_up (va_up (fun _ => none) (0 : Int32).toNatClampNeg (some q3)) ((0 + 1) : Int32).toNatClampNeg (some q6)))))))], [(q3, .inr (3, [.ref (sh x4 0 0), .ref (sh x4 20 0), .ref (sh x4 40 0), .int 0, .int 0]))], bC cI (sh x4 0) (r0, r1, r2, r3, 0, r4, r5, r6, r7, r8, 0, 100, 0, 0, 0, 1), bC cI (sh x4 20) (r0, r1, r2, r3, 0, r4, r5, r6, r7, r8, 0, 100, 0, 0, 0, 1), bC cI (sh x4 40) (r0, r1, r2, r3, 0, r4, r5, r6, r7, r8, 0, 100, 0, 0, 0, 1), [(q6, .inr (3, [.ref (sh x7 0 0), .ref (sh x7 20 0), .ref (sh x7 40 0), .int 0, .int 0]))], bC cI (sh x7 0) (r0, r1, r2, r3, 0, r4, r5, r6, r7, r8, 0, 100, 0, 0, 0, 1), bC cI (sh x7 20) (r0, r1, r2, r3, 0, r4, r5, r6, r7, r8, 0, 100, 0, 0, 0, 1), bC cI (sh x7 40) (r0, r1, r2, r3, 0, r4, r5, r6, r7, r8, 0, 100, 0, 0, 0, 1)]) E 1 0 2 6 0 rfl rfl rfl rfl rfl rfl (vp_in_iff.mpr (by decide)) rfl dX1_init_35 ?_
      refine kw_iinc (lo' := [(0, .ref h0), (1, .int ((0 + 1) + 1))]) X dX1_init_36 1 rfl (congrArg (fun w => (0 + 1) + w) ci_1) (by decide) [1, 0] rfl ?_
      refine kw_goto X 14 dX1_init_39 (by decide) ?_
      refine kw_iload_n X dX1_init_14 rfl 1 rfl ?_
      refine kw_aload_n X dX1_init_15 rfl 0 rfl ?_
      refine kb_get X inX1 0 0 rfl rfl rfl 0 (by decide) rfl gw_170 rfl dX1_init_16 ?_
      refine kb_alen (v := 5) X 1 0 2 rfl rfl rfl cn_5 dX1_init_19 ?_
      refine kw_icmp_ge X 42 dX1_init_20 (by decide) (fun q8 => ?_) (fun q8 => ?_)
      · exact absurd q8 (by decide)
      · refine kw_aload_n X dX1_init_23 rfl 0 rfl ?_
        refine kb_get X inX1 0 0 rfl rfl rfl 0 (by decide) rfl gw_170 rfl dX1_init_24 ?_
        refine kw_iload_n X dX1_init_27 rfl 1 rfl ?_
        refine kb_new (ci := 3) (fs := [.null, .null, .null, .int 0, .int 0]) X E inX3 tyX3 tyX3_ok gw_167 gw_31 gw_13 rfl (fun j hj => by rcases (show j = 0 ∨ j = 1 ∨ j = 2 ∨ j = 3 ∨ j = 4 by omega) with rfl | rfl | rfl | rfl | rfl <;> rfl) ⟨Nat.le_of_ble_eq_true rfl, Nat.le_of_ble_eq_true rfl⟩ dX1_init_28 (fun q9 => ?_)
        refine kw_weq (ws' := wj [[(h0, .inr (1, [.ref q1, .int 0, .int 0]))], [(q1, .inl (cR, 5, .inr (.inr (.inr (.inr (va_up (va_up (fun _ => none) (0 : Int32).toNatClampNeg (some q3)) ((0 + 1) : Int32).toNatClampNeg (some q6)))))))], [(q3, .inr (3, [.ref (sh x4 0 0), .ref (sh x4 20 0), .ref (sh x4 40 0), .int 0, .int 0]))], bC cI (sh x4 0) (r0, r1, r2, r3, 0, r4, r5, r6, r7, r8, 0, 100, 0, 0, 0, 1), bC cI (sh x4 20) (r0, r1, r2, r3, 0, r4, r5, r6, r7, r8, 0, 100, 0, 0, 0, 1), bC cI (sh x4 40) (r0, r1, r2, r3, 0, r4, r5, r6, r7, r8, 0, 100, 0, 0, 0, 1), [(q6, .inr (3, [.ref (sh x7 0 0), .ref (sh x7 20 0), .ref (sh x7 40 0), .int 0, .int 0]))], bC cI (sh x7 0) (r0, r1, r2, r3, 0, r4, r5, r6, r7, r8, 0, 100, 0, 0, 0, 1), bC cI (sh x7 20) (r0, r1, r2, r3, 0, r4, r5, r6, r7, r8, 0, 100, 0, 0, 0, 1), bC cI (sh x7 40) (r0, r1, r2, r3, 0, r4, r5, r6, r7, r8, 0, 100, 0, 0, 0, 1), [(q9, .inr (3, [.null, .null, .null, .int 0, .int 0]))]]) rfl ?_
        refine kw_dup X dX1_init_31 rfl ?_
        refine kb_inN X (As := []) (st := [.ref q9, .int ((0 + 1) + 1), .ref q1]) E (ci_X3 l D cI cC cR Z r0 r1 r2 r3 r4 r5 r6 r7 r8 hC q9) nw_23 vn_X1_17 yv_X3_init rfl ⟨Nat.le_of_ble_eq_true rfl, Nat.le_of_ble_eq_true rfl⟩ ⟨rfl, rfl⟩ ⟨Nat.le_of_ble_eq_true rfl, Nat.le_of_ble_eq_true rfl⟩ 10 rfl rfl rfl (Nat.le_of_ble_eq_true rfl) dX1_init_32 (fun x10 => ?_)
        refine kw_weq (ws' := wj [[(h0, .inr (1, [.ref q1, .int 0, .int 0]))], [(q1, .inl (cR, 5, .inr (.inr (.inr (.inr (va_up (va_up (fun _ => none) (0 : Int32).toNatClampNeg (some q3)) ((0 + 1) : Int32).toNatClampNeg (some q6)))))))], [(q3, .inr (3, [.ref (sh x4 0 0), .ref (sh x4 20 0), .ref (sh x4 40 0), .int 0, .int 0]))], bC cI (sh x4 0) (r0, r1, r2, r3, 0, r4, r5, r6, r7, r8, 0, 100, 0, 0, 0, 1), bC cI (sh x4 20) (r0, r1, r2, r3, 0, r4, r5, r6, r7, r8, 0, 100, 0, 0, 0, 1), bC cI (sh x4 40) (r0, r1, r2, r3, 0, r4, r5, r6, r7, r8, 0, 100, 0, 0, 0, 1), [(q6, .inr (3, [.ref (sh x7 0 0), .ref (sh x7 20 0), .ref (sh x7 40 0), .int 0, .int 0]))], bC cI (sh x7 0) (r0, r1, r2, r3, 0, r4, r5, r6, r7, r8, 0, 100, 0, 0, 0, 1), bC cI (sh x7 20) (r0, r1, r2, r3, 0, r4, r5, r6, r7, r8, 0, 100, 0, 0, 0, 1), bC cI (sh x7 40) (r0, r1, r2, r3, 0, r4, r5, r6, r7, r8, 0, 100, 0, 0, 0, 1), [(q9, .inr (3, [.ref (sh x10 0 0), .ref (sh x10 20 0), .ref (sh x10 40 0), .int 0, .int 0]))], bC cI (sh x10 0) (r0, r1, r2, r3, 0, r4, r5, r6, r7, r8, 0, 100, 0, 0, 0, 1), bC cI (sh x10 20) (r0, r1, r2, r3, 0, r4, r5, r6, r7, r8, 0, 100, 0, 0, 0, 1), bC cI (sh x10 40) (r0, r1, r2, r3, 0, r4, r5, r6, r7, r8, 0, 100, 0, 0, 0, 1)]) (wj_last [[(h0, .inr (1, [.ref q1, .int 0, .int 0]))], [(q1, .inl (cR, 5, .inr (.inr (.inr (.inr (va_up (va_up (fun _ => none) (0 : Int32).toNatClampNeg (some q3)) ((0 + 1) : Int32).toNatClampNeg (some q6)))))))], [(q3, .inr (3, [.ref (sh x4 0 0), .ref (sh x4 20 0), .ref (sh x4 40 0), .int 0, .int 0]))], bC cI (sh x4 0) (r0, r1, r2, r3, 0, r4, r5, r6, r7, r8, 0, 100, 0, 0, 0, 1), bC cI (sh x4 20) (r0, r1, r2, r3, 0, r4, r5, r6, r7, r8, 0, 100, 0, 0, 0, 1), bC cI (sh x4 40) (r0, r1, r2, r3, 0, r4, r5, r6, r7, r8, 0, 100, 0, 0, 0, 1), [(q6, .inr (3, [.ref (sh x7 0 0), .ref (sh x7 20 0), .ref (sh x7 40 0), .int 0, .int 0]))], bC cI (sh x7 0) (r0, r1, r2, r3, 0, r4, r5, r6, r7, r8, 0, 100, 0, 0, 0, 1), bC cI (sh x7 20) (r0, r1, r2, r3, 0, r4, r5, r6, r7, r8, 0, 100, 0, 0, 0, 1), bC cI (sh x7 40) (r0, r1, r2, r3, 0, r4, r5, r6, r7, r8, 0, 100, 0, 0, 0, 1)] [[(q9, .inr (3, [.ref (sh x10 0 0), .ref (sh x10 20 0), .ref (sh x10 40 0), .int 0, .int 0]))], bC cI (sh x10 0) (r0, r1, r2, r3, 0, r4, r5, r6, r7, r8, 0, 100, 0, 0, 0, 1), bC cI (sh x10 20) (r0, r1, r2, r3, 0, r4, r5, r6, r7, r8, 0, 100, 0, 0, 0, 1), bC cI (sh x10 40) (r0, r1, r2, r3, 0, r4, r5, r6, r7, r8, 0, 100, 0, 0, 0, 1)]) ?_
        refine kb_aast (r := (RX3, TX3, 5)) X (bs' := [[(h0, .inr (1, [.ref q1, .int 0, .int 0]))], [(q1, .inl (cR, 5, .inr (.inr (.inr (.inr (va_up (va_up (va_up (fun _ => none) (0 : Int32).toNatClampNeg (some q3)) ((0 + 1) : Int32).toNatClampNeg (some q6)) (((0 + 1) + 1) : Int32).toNatClampNeg (some q9)))))))], [(q3, .inr (3, [.ref (sh x4 0 0), .ref (sh x4 20 0), .ref (sh x4 40 0), .int 0, .int 0]))], bC cI (sh x4 0) (r0, r1, r2, r3, 0, r4, r5, r6, r7, r8, 0, 100, 0, 0, 0, 1), bC cI (sh x4 20) (r0, r1, r2, r3, 0, r4, r5, r6, r7, r8, 0, 100, 0, 0, 0, 1), bC cI (sh x4 40) (r0, r1, r2, r3, 0, r4, r5, r6, r7, r8, 0, 100, 0, 0, 0, 1), [(q6, .inr (3, [.ref (sh x7 0 0), .ref (sh x7 20 0), .ref (sh x7 40 0), .int 0, .int 0]))], bC cI (sh x7 0) (r0, r1, r2, r3, 0, r4, r5, r6, r7, r8, 0, 100, 0, 0, 0, 1), bC cI (sh x7 20) (r0, r1, r2, r3, 0, r4, r5, r6, r7, r8, 0, 100, 0, 0, 0, 1), bC cI (sh x7 40) (r0, r1, r2, r3, 0, r4, r5, r6, r7, r8, 0, 100, 0, 0, 0, 1), [(q9, .inr (3, [.ref (sh x10 0 0), .ref (sh x10 20 0), .ref (sh x10 40 0), .int 0, .int 0]))], bC cI (sh x10 0) (r0, r1, r2, r3, 0, r4, r5, r6, r7, r8, 0, 100, 0, 0, 0, 1), bC cI (sh x10 20) (r0, r1, r2, r3, 0, r4, r5, r6, r7, r8, 0, 100, 0, 0, 0, 1), bC cI (sh x10 40) (r0, r1, r2, r3, 0, r4, r5, r6, r7, r8, 0, 100, 0, 0, 0, 1)]) E 1 0 2 10 0 rfl rfl rfl rfl rfl rfl (vp_in_iff.mpr (by decide)) rfl dX1_init_35 ?_
        refine kw_iinc (lo' := [(0, .ref h0), (1, .int (((0 + 1) + 1) + 1))]) X dX1_init_36 1 rfl (congrArg (fun w => ((0 + 1) + 1) + w) ci_1) (by decide) [1, 0] rfl ?_
        refine kw_goto X 14 dX1_init_39 (by decide) ?_
        refine kw_iload_n X dX1_init_14 rfl 1 rfl ?_
        refine kw_aload_n X dX1_init_15 rfl 0 rfl ?_
        refine kb_get X inX1 0 0 rfl rfl rfl 0 (by decide) rfl gw_170 rfl dX1_init_16 ?_
        refine kb_alen (v := 5) X 1 0 2 rfl rfl rfl cn_5 dX1_init_19 ?_
        refine kw_icmp_ge X 42 dX1_init_20 (by decide) (fun q11 => ?_) (fun q11 => ?_)
        · exact absurd q11 (by decide)
        · refine kw_aload_n X dX1_init_23 rfl 0 rfl ?_
          refine kb_get X inX1 0 0 rfl rfl rfl 0 (by decide) rfl gw_170 rfl dX1_init_24 ?_
          refine kw_iload_n X dX1_init_27 rfl 1 rfl ?_
          refine kb_new (ci := 3) (fs := [.null, .null, .null, .int 0, .int 0]) X E inX3 tyX3 tyX3_ok gw_167 gw_31 gw_13 rfl (fun j hj => by rcases (show j = 0 ∨ j = 1 ∨ j = 2 ∨ j = 3 ∨ j = 4 by omega) with rfl | rfl | rfl | rfl | rfl <;> rfl) ⟨Nat.le_of_ble_eq_true rfl, Nat.le_of_ble_eq_true rfl⟩ dX1_init_28 (fun q12 => ?_)
          refine kw_weq (ws' := wj [[(h0, .inr (1, [.ref q1, .int 0, .int 0]))], [(q1, .inl (cR, 5, .inr (.inr (.inr (.inr (va_up (va_up (va_up (fun _ => none) (0 : Int32).toNatClampNeg (some q3)) ((0 + 1) : Int32).toNatClampNeg (some q6)) (((0 + 1) + 1) : Int32).toNatClampNeg (some q9)))))))], [(q3, .inr (3, [.ref (sh x4 0 0), .ref (sh x4 20 0), .ref (sh x4 40 0), .int 0, .int 0]))], bC cI (sh x4 0) (r0, r1, r2, r3, 0, r4, r5, r6, r7, r8, 0, 100, 0, 0, 0, 1), bC cI (sh x4 20) (r0, r1, r2, r3, 0, r4, r5, r6, r7, r8, 0, 100, 0, 0, 0, 1), bC cI (sh x4 40) (r0, r1, r2, r3, 0, r4, r5, r6, r7, r8, 0, 100, 0, 0, 0, 1), [(q6, .inr (3, [.ref (sh x7 0 0), .ref (sh x7 20 0), .ref (sh x7 40 0), .int 0, .int 0]))], bC cI (sh x7 0) (r0, r1, r2, r3, 0, r4, r5, r6, r7, r8, 0, 100, 0, 0, 0, 1), bC cI (sh x7 20) (r0, r1, r2, r3, 0, r4, r5, r6, r7, r8, 0, 100, 0, 0, 0, 1), bC cI (sh x7 40) (r0, r1, r2, r3, 0, r4, r5, r6, r7, r8, 0, 100, 0, 0, 0, 1), [(q9, .inr (3, [.ref (sh x10 0 0), .ref (sh x10 20 0), .ref (sh x10 40 0), .int 0, .int 0]))], bC cI (sh x10 0) (r0, r1, r2, r3, 0, r4, r5, r6, r7, r8, 0, 100, 0, 0, 0, 1), bC cI (sh x10 20) (r0, r1, r2, r3, 0, r4, r5, r6, r7, r8, 0, 100, 0, 0, 0, 1), bC cI (sh x10 40) (r0, r1, r2, r3, 0, r4, r5, r6, r7, r8, 0, 100, 0, 0, 0, 1), [(q12, .inr (3, [.null, .null, .null, .int 0, .int 0]))]]) rfl ?_
          refine kw_dup X dX1_init_31 rfl ?_
          refine kb_inN X (As := []) (st := [.ref q12, .int (((0 + 1) + 1) + 1), .ref q1]) E (ci_X3 l D cI cC cR Z r0 r1 r2 r3 r4 r5 r6 r7 r8 hC q12) nw_23 vn_X1_17 yv_X3_init rfl ⟨Nat.le_of_ble_eq_true rfl, Nat.le_of_ble_eq_true rfl⟩ ⟨rfl, rfl⟩ ⟨Nat.le_of_ble_eq_true rfl, Nat.le_of_ble_eq_true rfl⟩ 14 rfl rfl rfl (Nat.le_of_ble_eq_true rfl) dX1_init_32 (fun x13 => ?_)
          refine kw_weq (ws' := wj [[(h0, .inr (1, [.ref q1, .int 0, .int 0]))], [(q1, .inl (cR, 5, .inr (.inr (.inr (.inr (va_up (va_up (va_up (fun _ => none) (0 : Int32).toNatClampNeg (some q3)) ((0 + 1) : Int32).toNatClampNeg (some q6)) (((0 + 1) + 1) : Int32).toNatClampNeg (some q9)))))))], [(q3, .inr (3, [.ref (sh x4 0 0), .ref (sh x4 20 0), .ref (sh x4 40 0), .int 0, .int 0]))], bC cI (sh x4 0) (r0, r1, r2, r3, 0, r4, r5, r6, r7, r8, 0, 100, 0, 0, 0, 1), bC cI (sh x4 20) (r0, r1, r2, r3, 0, r4, r5, r6, r7, r8, 0, 100, 0, 0, 0, 1), bC cI (sh x4 40) (r0, r1, r2, r3, 0, r4, r5, r6, r7, r8, 0, 100, 0, 0, 0, 1), [(q6, .inr (3, [.ref (sh x7 0 0), .ref (sh x7 20 0), .ref (sh x7 40 0), .int 0, .int 0]))], bC cI (sh x7 0) (r0, r1, r2, r3, 0, r4, r5, r6, r7, r8, 0, 100, 0, 0, 0, 1), bC cI (sh x7 20) (r0, r1, r2, r3, 0, r4, r5, r6, r7, r8, 0, 100, 0, 0, 0, 1), bC cI (sh x7 40) (r0, r1, r2, r3, 0, r4, r5, r6, r7, r8, 0, 100, 0, 0, 0, 1), [(q9, .inr (3, [.ref (sh x10 0 0), .ref (sh x10 20 0), .ref (sh x10 40 0), .int 0, .int 0]))], bC cI (sh x10 0) (r0, r1, r2, r3, 0, r4, r5, r6, r7, r8, 0, 100, 0, 0, 0, 1), bC cI (sh x10 20) (r0, r1, r2, r3, 0, r4, r5, r6, r7, r8, 0, 100, 0, 0, 0, 1), bC cI (sh x10 40) (r0, r1, r2, r3, 0, r4, r5, r6, r7, r8, 0, 100, 0, 0, 0, 1), [(q12, .inr (3, [.ref (sh x13 0 0), .ref (sh x13 20 0), .ref (sh x13 40 0), .int 0, .int 0]))], bC cI (sh x13 0) (r0, r1, r2, r3, 0, r4, r5, r6, r7, r8, 0, 100, 0, 0, 0, 1), bC cI (sh x13 20) (r0, r1, r2, r3, 0, r4, r5, r6, r7, r8, 0, 100, 0, 0, 0, 1), bC cI (sh x13 40) (r0, r1, r2, r3, 0, r4, r5, r6, r7, r8, 0, 100, 0, 0, 0, 1)]) (wj_last [[(h0, .inr (1, [.ref q1, .int 0, .int 0]))], [(q1, .inl (cR, 5, .inr (.inr (.inr (.inr (va_up (va_up (va_up (fun _ => none) (0 : Int32).toNatClampNeg (some q3)) ((0 + 1) : Int32).toNatClampNeg (some q6)) (((0 + 1) + 1) : Int32).toNatClampNeg (some q9)))))))], [(q3, .inr (3, [.ref (sh x4 0 0), .ref (sh x4 20 0), .ref (sh x4 40 0), .int 0, .int 0]))], bC cI (sh x4 0) (r0, r1, r2, r3, 0, r4, r5, r6, r7, r8, 0, 100, 0, 0, 0, 1), bC cI (sh x4 20) (r0, r1, r2, r3, 0, r4, r5, r6, r7, r8, 0, 100, 0, 0, 0, 1), bC cI (sh x4 40) (r0, r1, r2, r3, 0, r4, r5, r6, r7, r8, 0, 100, 0, 0, 0, 1), [(q6, .inr (3, [.ref (sh x7 0 0), .ref (sh x7 20 0), .ref (sh x7 40 0), .int 0, .int 0]))], bC cI (sh x7 0) (r0, r1, r2, r3, 0, r4, r5, r6, r7, r8, 0, 100, 0, 0, 0, 1), bC cI (sh x7 20) (r0, r1, r2, r3, 0, r4, r5, r6, r7, r8, 0, 100, 0, 0, 0, 1), bC cI (sh x7 40) (r0, r1, r2, r3, 0, r4, r5, r6, r7, r8, 0, 100, 0, 0, 0, 1), [(q9, .inr (3, [.ref (sh x10 0 0), .ref (sh x10 20 0), .ref (sh x10 40 0), .int 0, .int 0]))], bC cI (sh x10 0) (r0, r1, r2, r3, 0, r4, r5, r6, r7, r8, 0, 100, 0, 0, 0, 1), bC cI (sh x10 20) (r0, r1, r2, r3, 0, r4, r5, r6, r7, r8, 0, 100, 0, 0, 0, 1), bC cI (sh x10 40) (r0, r1, r2, r3, 0, r4, r5, r6, r7, r8, 0, 100, 0, 0, 0, 1)] [[(q12, .inr (3, [.ref (sh x13 0 0), .ref (sh x13 20 0), .ref (sh x13 40 0), .int 0, .int 0]))], bC cI (sh x13 0) (r0, r1, r2, r3, 0, r4, r5, r6, r7, r8, 0, 100, 0, 0, 0, 1), bC cI (sh x13 20) (r0, r1, r2, r3, 0, r4, r5, r6, r7, r8, 0, 100, 0, 0, 0, 1), bC cI (sh x13 40) (r0, r1, r2, r3, 0, r4, r5, r6, r7, r8, 0, 100, 0, 0, 0, 1)]) ?_
          refine kb_aast (r := (RX3, TX3, 5)) X (bs' := [[(h0, .inr (1, [.ref q1, .int 0, .int 0]))], [(q1, .inl (cR, 5, .inr (.inr (.inr (.inr (va_up (va_up (va_up (va_up (fun _ => none) (0 : Int32).toNatClampNeg (some q3)) ((0 + 1) : Int32).toNatClampNeg (some q6)) (((0 + 1) + 1) : Int32).toNatClampNeg (some q9)) ((((0 + 1) + 1) + 1) : Int32).toNatClampNeg (some q12)))))))], [(q3, .inr (3, [.ref (sh x4 0 0), .ref (sh x4 20 0), .ref (sh x4 40 0), .int 0, .int 0]))], bC cI (sh x4 0) (r0, r1, r2, r3, 0, r4, r5, r6, r7, r8, 0, 100, 0, 0, 0, 1), bC cI (sh x4 20) (r0, r1, r2, r3, 0, r4, r5, r6, r7, r8, 0, 100, 0, 0, 0, 1), bC cI (sh x4 40) (r0, r1, r2, r3, 0, r4, r5, r6, r7, r8, 0, 100, 0, 0, 0, 1), [(q6, .inr (3, [.ref (sh x7 0 0), .ref (sh x7 20 0), .ref (sh x7 40 0), .int 0, .int 0]))], bC cI (sh x7 0) (r0, r1, r2, r3, 0, r4, r5, r6, r7, r8, 0, 100, 0, 0, 0, 1), bC cI (sh x7 20) (r0, r1, r2, r3, 0, r4, r5, r6, r7, r8, 0, 100, 0, 0, 0, 1), bC cI (sh x7 40) (r0, r1, r2, r3, 0, r4, r5, r6, r7, r8, 0, 100, 0, 0, 0, 1), [(q9, .inr (3, [.ref (sh x10 0 0), .ref (sh x10 20 0), .ref (sh x10 40 0), .int 0, .int 0]))], bC cI (sh x10 0) (r0, r1, r2, r3, 0, r4, r5, r6, r7, r8, 0, 100, 0, 0, 0, 1), bC cI (sh x10 20) (r0, r1, r2, r3, 0, r4, r5, r6, r7, r8, 0, 100, 0, 0, 0, 1), bC cI (sh x10 40) (r0, r1, r2, r3, 0, r4, r5, r6, r7, r8, 0, 100, 0, 0, 0, 1), [(q12, .inr (3, [.ref (sh x13 0 0), .ref (sh x13 20 0), .ref (sh x13 40 0), .int 0, .int 0]))], bC cI (sh x13 0) (r0, r1, r2, r3, 0, r4, r5, r6, r7, r8, 0, 100, 0, 0, 0, 1), bC cI (sh x13 20) (r0, r1, r2, r3, 0, r4, r5, r6, r7, r8, 0, 100, 0, 0, 0, 1), bC cI (sh x13 40) (r0, r1, r2, r3, 0, r4, r5, r6, r7, r8, 0, 100, 0, 0, 0, 1)]) E 1 0 2 14 0 rfl rfl rfl rfl rfl rfl (vp_in_iff.mpr (by decide)) rfl dX1_init_35 ?_
          refine kw_iinc (lo' := [(0, .ref h0), (1, .int ((((0 + 1) + 1) + 1) + 1))]) X dX1_init_36 1 rfl (congrArg (fun w => (((0 + 1) + 1) + 1) + w) ci_1) (by decide) [1, 0] rfl ?_
          refine kw_goto X 14 dX1_init_39 (by decide) ?_
          refine kw_iload_n X dX1_init_14 rfl 1 rfl ?_
          refine kw_aload_n X dX1_init_15 rfl 0 rfl ?_
          refine kb_get X inX1 0 0 rfl rfl rfl 0 (by decide) rfl gw_170 rfl dX1_init_16 ?_
          refine kb_alen (v := 5) X 1 0 2 rfl rfl rfl cn_5 dX1_init_19 ?_
          refine kw_icmp_ge X 42 dX1_init_20 (by decide) (fun q14 => ?_) (fun q14 => ?_)
          · exact absurd q14 (by decide)
          · refine kw_aload_n X dX1_init_23 rfl 0 rfl ?_
            refine kb_get X inX1 0 0 rfl rfl rfl 0 (by decide) rfl gw_170 rfl dX1_init_24 ?_
            refine kw_iload_n X dX1_init_27 rfl 1 rfl ?_
            refine kb_new (ci := 3) (fs := [.null, .null, .null, .int 0, .int 0]) X E inX3 tyX3 tyX3_ok gw_167 gw_31 gw_13 rfl (fun j hj => by rcases (show j = 0 ∨ j = 1 ∨ j = 2 ∨ j = 3 ∨ j = 4 by omega) with rfl | rfl | rfl | rfl | rfl <;> rfl) ⟨Nat.le_of_ble_eq_true rfl, Nat.le_of_ble_eq_true rfl⟩ dX1_init_28 (fun q15 => ?_)
            refine kw_weq (ws' := wj [[(h0, .inr (1, [.ref q1, .int 0, .int 0]))], [(q1, .inl (cR, 5, .inr (.inr (.inr (.inr (va_up (va_up (va_up (va_up (fun _ => none) (0 : Int32).toNatClampNeg (some q3)) ((0 + 1) : Int32).toNatClampNeg (some q6)) (((0 + 1) + 1) : Int32).toNatClampNeg (some q9)) ((((0 + 1) + 1) + 1) : Int32).toNatClampNeg (some q12)))))))], [(q3, .inr (3, [.ref (sh x4 0 0), .ref (sh x4 20 0), .ref (sh x4 40 0), .int 0, .int 0]))], bC cI (sh x4 0) (r0, r1, r2, r3, 0, r4, r5, r6, r7, r8, 0, 100, 0, 0, 0, 1), bC cI (sh x4 20) (r0, r1, r2, r3, 0, r4, r5, r6, r7, r8, 0, 100, 0, 0, 0, 1), bC cI (sh x4 40) (r0, r1, r2, r3, 0, r4, r5, r6, r7, r8, 0, 100, 0, 0, 0, 1), [(q6, .inr (3, [.ref (sh x7 0 0), .ref (sh x7 20 0), .ref (sh x7 40 0), .int 0, .int 0]))], bC cI (sh x7 0) (r0, r1, r2, r3, 0, r4, r5, r6, r7, r8, 0, 100, 0, 0, 0, 1), bC cI (sh x7 20) (r0, r1, r2, r3, 0, r4, r5, r6, r7, r8, 0, 100, 0, 0, 0, 1), bC cI (sh x7 40) (r0, r1, r2, r3, 0, r4, r5, r6, r7, r8, 0, 100, 0, 0, 0, 1), [(q9, .inr (3, [.ref (sh x10 0 0), .ref (sh x10 20 0), .ref (sh x10 40 0), .int 0, .int 0]))], bC cI (sh x10 0) (r0, r1, r2, r3, 0, r4, r5, r6, r7, r8, 0, 100, 0, 0, 0, 1), bC cI (sh x10 20) (r0, r1, r2, r3, 0, r4, r5, r6, r7, r8, 0, 100, 0, 0, 0, 1), bC cI (sh x10 40) (r0, r1, r2, r3, 0, r4, r5, r6, r7, r8, 0, 100, 0, 0, 0, 1), [(q12, .inr (3, [.ref (sh x13 0 0), .ref (sh x13 20 0), .ref (sh x13 40 0), .int 0, .int 0]))], bC cI (sh x13 0) (r0, r1, r2, r3, 0, r4, r5, r6, r7, r8, 0, 100, 0, 0, 0, 1), bC cI (sh x13 20) (r0, r1, r2, r3, 0, r4, r5, r6, r7, r8, 0, 100, 0, 0, 0, 1), bC cI (sh x13 40) (r0, r1, r2, r3, 0, r4, r5, r6, r7, r8, 0, 100, 0, 0, 0, 1), [(q15, .inr (3, [.null, .null, .null, .int 0, .int 0]))]]) rfl ?_
            refine kw_dup X dX1_init_31 rfl ?_
            refine kb_inN X (As := []) (st := [.ref q15, .int ((((0 + 1) + 1) + 1) + 1), .ref q1]) E (ci_X3 l D cI cC cR Z r0 r1 r2 r3 r4 r5 r6 r7 r8 hC q15) nw_23 vn_X1_17 yv_X3_init rfl ⟨Nat.le_of_ble_eq_true rfl, Nat.le_of_ble_eq_true rfl⟩ ⟨rfl, rfl⟩ ⟨Nat.le_of_ble_eq_true rfl, Nat.le_of_ble_eq_true rfl⟩ 18 rfl rfl rfl (Nat.le_of_ble_eq_true rfl) dX1_init_32 (fun x16 => ?_)
            refine kw_weq (ws' := wj [[(h0, .inr (1, [.ref q1, .int 0, .int 0]))], [(q1, .inl (cR, 5, .inr (.inr (.inr (.inr (va_up (va_up (va_up (va_up (fun _ => none) (0 : Int32).toNatClampNeg (some q3)) ((0 + 1) : Int32).toNatClampNeg (some q6)) (((0 + 1) + 1) : Int32).toNatClampNeg (some q9)) ((((0 + 1) + 1) + 1) : Int32).toNatClampNeg (some q12)))))))], [(q3, .inr (3, [.ref (sh x4 0 0), .ref (sh x4 20 0), .ref (sh x4 40 0), .int 0, .int 0]))], bC cI (sh x4 0) (r0, r1, r2, r3, 0, r4, r5, r6, r7, r8, 0, 100, 0, 0, 0, 1), bC cI (sh x4 20) (r0, r1, r2, r3, 0, r4, r5, r6, r7, r8, 0, 100, 0, 0, 0, 1), bC cI (sh x4 40) (r0, r1, r2, r3, 0, r4, r5, r6, r7, r8, 0, 100, 0, 0, 0, 1), [(q6, .inr (3, [.ref (sh x7 0 0), .ref (sh x7 20 0), .ref (sh x7 40 0), .int 0, .int 0]))], bC cI (sh x7 0) (r0, r1, r2, r3, 0, r4, r5, r6, r7, r8, 0, 100, 0, 0, 0, 1), bC cI (sh x7 20) (r0, r1, r2, r3, 0, r4, r5, r6, r7, r8, 0, 100, 0, 0, 0, 1), bC cI (sh x7 40) (r0, r1, r2, r3, 0, r4, r5, r6, r7, r8, 0, 100, 0, 0, 0, 1), [(q9, .inr (3, [.ref (sh x10 0 0), .ref (sh x10 20 0), .ref (sh x10 40 0), .int 0, .int 0]))], bC cI (sh x10 0) (r0, r1, r2, r3, 0, r4, r5, r6, r7, r8, 0, 100, 0, 0, 0, 1), bC cI (sh x10 20) (r0, r1, r2, r3, 0, r4, r5, r6, r7, r8, 0, 100, 0, 0, 0, 1), bC cI (sh x10 40) (r0, r1, r2, r3, 0, r4, r5, r6, r7, r8, 0, 100, 0, 0, 0, 1), [(q12, .inr (3, [.ref (sh x13 0 0), .ref (sh x13 20 0), .ref (sh x13 40 0), .int 0, .int 0]))], bC cI (sh x13 0) (r0, r1, r2, r3, 0, r4, r5, r6, r7, r8, 0, 100, 0, 0, 0, 1), bC cI (sh x13 20) (r0, r1, r2, r3, 0, r4, r5, r6, r7, r8, 0, 100, 0, 0, 0, 1), bC cI (sh x13 40) (r0, r1, r2, r3, 0, r4, r5, r6, r7, r8, 0, 100, 0, 0, 0, 1), [(q15, .inr (3, [.ref (sh x16 0 0), .ref (sh x16 20 0), .ref (sh x16 40 0), .int 0, .int 0]))], bC cI (sh x16 0) (r0, r1, r2, r3, 0, r4, r5, r6, r7, r8, 0, 100, 0, 0, 0, 1), bC cI (sh x16 20) (r0, r1, r2, r3, 0, r4, r5, r6, r7, r8, 0, 100, 0, 0, 0, 1), bC cI (sh x16 40) (r0, r1, r2, r3, 0, r4, r5, r6, r7, r8, 0, 100, 0, 0, 0, 1)]) (wj_last [[(h0, .inr (1, [.ref q1, .int 0, .int 0]))], [(q1, .inl (cR, 5, .inr (.inr (.inr (.inr (va_up (va_up (va_up (va_up (fun _ => none) (0 : Int32).toNatClampNeg (some q3)) ((0 + 1) : Int32).toNatClampNeg (some q6)) (((0 + 1) + 1) : Int32).toNatClampNeg (some q9)) ((((0 + 1) + 1) + 1) : Int32).toNatClampNeg (some q12)))))))], [(q3, .inr (3, [.ref (sh x4 0 0), .ref (sh x4 20 0), .ref (sh x4 40 0), .int 0, .int 0]))], bC cI (sh x4 0) (r0, r1, r2, r3, 0, r4, r5, r6, r7, r8, 0, 100, 0, 0, 0, 1), bC cI (sh x4 20) (r0, r1, r2, r3, 0, r4, r5, r6, r7, r8, 0, 100, 0, 0, 0, 1), bC cI (sh x4 40) (r0, r1, r2, r3, 0, r4, r5, r6, r7, r8, 0, 100, 0, 0, 0, 1), [(q6, .inr (3, [.ref (sh x7 0 0), .ref (sh x7 20 0), .ref (sh x7 40 0), .int 0, .int 0]))], bC cI (sh x7 0) (r0, r1, r2, r3, 0, r4, r5, r6, r7, r8, 0, 100, 0, 0, 0, 1), bC cI (sh x7 20) (r0, r1, r2, r3, 0, r4, r5, r6, r7, r8, 0, 100, 0, 0, 0, 1), bC cI (sh x7 40) (r0, r1, r2, r3, 0, r4, r5, r6, r7, r8, 0, 100, 0, 0, 0, 1), [(q9, .inr (3, [.ref (sh x10 0 0), .ref (sh x10 20 0), .ref (sh x10 40 0), .int 0, .int 0]))], bC cI (sh x10 0) (r0, r1, r2, r3, 0, r4, r5, r6, r7, r8, 0, 100, 0, 0, 0, 1), bC cI (sh x10 20) (r0, r1, r2, r3, 0, r4, r5, r6, r7, r8, 0, 100, 0, 0, 0, 1), bC cI (sh x10 40) (r0, r1, r2, r3, 0, r4, r5, r6, r7, r8, 0, 100, 0, 0, 0, 1), [(q12, .inr (3, [.ref (sh x13 0 0), .ref (sh x13 20 0), .ref (sh x13 40 0), .int 0, .int 0]))], bC cI (sh x13 0) (r0, r1, r2, r3, 0, r4, r5, r6, r7, r8, 0, 100, 0, 0, 0, 1), bC cI (sh x13 20) (r0, r1, r2, r3, 0, r4, r5, r6, r7, r8, 0, 100, 0, 0, 0, 1), bC cI (sh x13 40) (r0, r1, r2, r3, 0, r4, r5, r6, r7, r8, 0, 100, 0, 0, 0, 1)] [[(q15, .inr (3, [.ref (sh x16 0 0), .ref (sh x16 20 0), .ref (sh x16 40 0), .int 0, .int 0]))], bC cI (sh x16 0) (r0, r1, r2, r3, 0, r4, r5, r6, r7, r8, 0, 100, 0, 0, 0, 1), bC cI (sh x16 20) (r0, r1, r2, r3, 0, r4, r5, r6, r7, r8, 0, 100, 0, 0, 0, 1), bC cI (sh x16 40) (r0, r1, r2, r3, 0, r4, r5, r6, r7, r8, 0, 100, 0, 0, 0, 1)]) ?_
            refine kb_aast (r := (RX3, TX3, 5)) X (bs' := [[(h0, .inr (1, [.ref q1, .int 0, .int 0]))], [(q1, .inl (cR, 5, .inr (.inr (.inr (.inr (va_up (va_up (va_up (va_up (va_up (fun _ => none) (0 : Int32).toNatClampNeg (some q3)) ((0 + 1) : Int32).toNatClampNeg (some q6)) (((0 + 1) + 1) : Int32).toNatClampNeg (some q9)) ((((0 + 1) + 1) + 1) : Int32).toNatClampNeg (some q12)) (((((0 + 1) + 1) + 1) + 1) : Int32).toNatClampNeg (some q15)))))))], [(q3, .inr (3, [.ref (sh x4 0 0), .ref (sh x4 20 0), .ref (sh x4 40 0), .int 0, .int 0]))], bC cI (sh x4 0) (r0, r1, r2, r3, 0, r4, r5, r6, r7, r8, 0, 100, 0, 0, 0, 1), bC cI (sh x4 20) (r0, r1, r2, r3, 0, r4, r5, r6, r7, r8, 0, 100, 0, 0, 0, 1), bC cI (sh x4 40) (r0, r1, r2, r3, 0, r4, r5, r6, r7, r8, 0, 100, 0, 0, 0, 1), [(q6, .inr (3, [.ref (sh x7 0 0), .ref (sh x7 20 0), .ref (sh x7 40 0), .int 0, .int 0]))], bC cI (sh x7 0) (r0, r1, r2, r3, 0, r4, r5, r6, r7, r8, 0, 100, 0, 0, 0, 1), bC cI (sh x7 20) (r0, r1, r2, r3, 0, r4, r5, r6, r7, r8, 0, 100, 0, 0, 0, 1), bC cI (sh x7 40) (r0, r1, r2, r3, 0, r4, r5, r6, r7, r8, 0, 100, 0, 0, 0, 1), [(q9, .inr (3, [.ref (sh x10 0 0), .ref (sh x10 20 0), .ref (sh x10 40 0), .int 0, .int 0]))], bC cI (sh x10 0) (r0, r1, r2, r3, 0, r4, r5, r6, r7, r8, 0, 100, 0, 0, 0, 1), bC cI (sh x10 20) (r0, r1, r2, r3, 0, r4, r5, r6, r7, r8, 0, 100, 0, 0, 0, 1), bC cI (sh x10 40) (r0, r1, r2, r3, 0, r4, r5, r6, r7, r8, 0, 100, 0, 0, 0, 1), [(q12, .inr (3, [.ref (sh x13 0 0), .ref (sh x13 20 0), .ref (sh x13 40 0), .int 0, .int 0]))], bC cI (sh x13 0) (r0, r1, r2, r3, 0, r4, r5, r6, r7, r8, 0, 100, 0, 0, 0, 1), bC cI (sh x13 20) (r0, r1, r2, r3, 0, r4, r5, r6, r7, r8, 0, 100, 0, 0, 0, 1), bC cI (sh x13 40) (r0, r1, r2, r3, 0, r4, r5, r6, r7, r8, 0, 100, 0, 0, 0, 1), [(q15, .inr (3, [.ref (sh x16 0 0), .ref (sh x16 20 0), .ref (sh x16 40 0), .int 0, .int 0]))], bC cI (sh x16 0) (r0, r1, r2, r3, 0, r4, r5, r6, r7, r8, 0, 100, 0, 0, 0, 1), bC cI (sh x16 20) (r0, r1, r2, r3, 0, r4, r5, r6, r7, r8, 0, 100, 0, 0, 0, 1), bC cI (sh x16 40) (r0, r1, r2, r3, 0, r4, r5, r6, r7, r8, 0, 100, 0, 0, 0, 1)]) E 1 0 2 18 0 rfl rfl rfl rfl rfl rfl (vp_in_iff.mpr (by decide)) rfl dX1_init_35 ?_
            refine kw_iinc (lo' := [(0, .ref h0), (1, .int (((((0 + 1) + 1) + 1) + 1) + 1))]) X dX1_init_36 1 rfl (congrArg (fun w => ((((0 + 1) + 1) + 1) + 1) + w) ci_1) (by decide) [1, 0] rfl ?_
            refine kw_goto X 14 dX1_init_39 (by decide) ?_
            refine kw_iload_n X dX1_init_14 rfl 1 rfl ?_
            refine kw_aload_n X dX1_init_15 rfl 0 rfl ?_
            refine kb_get X inX1 0 0 rfl rfl rfl 0 (by decide) rfl gw_170 rfl dX1_init_16 ?_
            refine kb_alen (v := 5) X 1 0 2 rfl rfl rfl cn_5 dX1_init_19 ?_
            refine kw_icmp_ge X 42 dX1_init_20 (by decide) (fun q17 => ?_) (fun q17 => ?_)
            · refine kb_aeq (bs' := [[(h0, .inr (1, [.ref q1, .int 0, .int 0]))], [(q1, .inl (cR, 5, .inr (.inr (.inr (.inr (fun i => if i < 5 then some (nc h0 (hadr q1 (ad [q3, q6, q9, q12, q15]) (fun i => [x4, x7, x10, x13, x16].getD i (fun _ => 0))) (2 + 61 * i)) else none))))))], [(q3, .inr (3, [.ref (sh x4 0 0), .ref (sh x4 20 0), .ref (sh x4 40 0), .int 0, .int 0]))], bC cI (sh x4 0) (r0, r1, r2, r3, 0, r4, r5, r6, r7, r8, 0, 100, 0, 0, 0, 1), bC cI (sh x4 20) (r0, r1, r2, r3, 0, r4, r5, r6, r7, r8, 0, 100, 0, 0, 0, 1), bC cI (sh x4 40) (r0, r1, r2, r3, 0, r4, r5, r6, r7, r8, 0, 100, 0, 0, 0, 1), [(q6, .inr (3, [.ref (sh x7 0 0), .ref (sh x7 20 0), .ref (sh x7 40 0), .int 0, .int 0]))], bC cI (sh x7 0) (r0, r1, r2, r3, 0, r4, r5, r6, r7, r8, 0, 100, 0, 0, 0, 1), bC cI (sh x7 20) (r0, r1, r2, r3, 0, r4, r5, r6, r7, r8, 0, 100, 0, 0, 0, 1), bC cI (sh x7 40) (r0, r1, r2, r3, 0, r4, r5, r6, r7, r8, 0, 100, 0, 0, 0, 1), [(q9, .inr (3, [.ref (sh x10 0 0), .ref (sh x10 20 0), .ref (sh x10 40 0), .int 0, .int 0]))], bC cI (sh x10 0) (r0, r1, r2, r3, 0, r4, r5, r6, r7, r8, 0, 100, 0, 0, 0, 1), bC cI (sh x10 20) (r0, r1, r2, r3, 0, r4, r5, r6, r7, r8, 0, 100, 0, 0, 0, 1), bC cI (sh x10 40) (r0, r1, r2, r3, 0, r4, r5, r6, r7, r8, 0, 100, 0, 0, 0, 1), [(q12, .inr (3, [.ref (sh x13 0 0), .ref (sh x13 20 0), .ref (sh x13 40 0), .int 0, .int 0]))], bC cI (sh x13 0) (r0, r1, r2, r3, 0, r4, r5, r6, r7, r8, 0, 100, 0, 0, 0, 1), bC cI (sh x13 20) (r0, r1, r2, r3, 0, r4, r5, r6, r7, r8, 0, 100, 0, 0, 0, 1), bC cI (sh x13 40) (r0, r1, r2, r3, 0, r4, r5, r6, r7, r8, 0, 100, 0, 0, 0, 1), [(q15, .inr (3, [.ref (sh x16 0 0), .ref (sh x16 20 0), .ref (sh x16 40 0), .int 0, .int 0]))], bC cI (sh x16 0) (r0, r1, r2, r3, 0, r4, r5, r6, r7, r8, 0, 100, 0, 0, 0, 1), bC cI (sh x16 20) (r0, r1, r2, r3, 0, r4, r5, r6, r7, r8, 0, 100, 0, 0, 0, 1), bC cI (sh x16 40) (r0, r1, r2, r3, 0, r4, r5, r6, r7, r8, 0, 100, 0, 0, 0, 1)]) 1 rfl (fun j hj => by rcases (show j = 0 ∨ j = 1 ∨ j = 2 ∨ j = 3 ∨ j = 4 by omega) with rfl | rfl | rfl | rfl | rfl <;> rfl) rfl ?_
              exact hret (hadr q1 (ad [q3, q6, q9, q12, q15]) (fun i => [x4, x7, x10, x13, x16].getD i (fun _ => 0))) _ _ dX1_init_42
            · exact absurd q17 (by decide)
-- X6_init
def radr (q1 : Nat) (x1 : Nat → Nat) (q2 : Nat) (x2 : Nat → Nat) (q3 : Nat) (x3 : Nat → Nat) : Nat → Nat := fun i => if i < 61 then nc q1 x1 i else if i < 368 then nc q2 x2 (i - 61) else nc q3 x3 (i - 368)
theorem bC_cg {cI : ClassId} {a b : Nat → Nat} {c : CV} (h : ∀ i, i < 20 → a i = b i) : bC cI a c = bC cI b c := by
  unfold bC wX0
  simp only [h 0 (by decide), h 1 (by decide), h 2 (by decide), h 3 (by decide), h 4 (by decide), h 5 (by decide), h 6 (by decide), h 7 (by decide), h 8 (by decide), h 9 (by decide), h 10 (by decide), h 11 (by decide), h 12 (by decide), h 13 (by decide), h 14 (by decide), h 15 (by decide), h 16 (by decide), h 17 (by decide), h 18 (by decide), h 19 (by decide)]
theorem bS_cg {cI : ClassId} {a b : Nat → Nat} {k : Nat} {s : SV} (h : ∀ i, k ≤ i → i < k + 61 → a i = b i) : bS cI a k s = bS cI b k s := by
  unfold bS
  rw [bC_cg (a := sh a (k + 1)) (b := sh b (k + 1)) (fun i hi => h _ (by omega) (by omega)), bC_cg (a := sh a (k + 21)) (b := sh b (k + 21)) (fun i hi => h _ (by omega) (by omega)), bC_cg (a := sh a (k + 41)) (b := sh b (k + 41)) (fun i hi => h _ (by omega) (by omega))]
  unfold sh
  rw [h k (by omega) (by omega), h (k + 1 + 0) (by omega) (by omega), h (k + 21 + 0) (by omega) (by omega), h (k + 41 + 0) (by omega) (by omega)]
theorem rl_bH {cI cR : ClassId} {a b : Nat → Nat} {g : Nat → SV} {nx : Nat} {sz : Int32} (h : ∀ i, i < 307 → a i = b i) : bH cI cR a g nx sz = bH cI cR b g nx sz := by
  have hf : (fun i => if i < 5 then some (a (2 + 61 * i)) else none) = (fun i => if i < 5 then some (b (2 + 61 * i)) else none) := by
    funext i
    by_cases hi : i < 5
    · rw [if_pos hi, if_pos hi, h _ (by omega)]
    · rw [if_neg hi, if_neg hi]
  unfold bH bHL
  rw [bS_cg (k := 2) (a := a) (b := b) (fun i _ hi => h i (by omega)), bS_cg (k := 63) (a := a) (b := b) (fun i _ hi => h i (by omega)), bS_cg (k := 124) (a := a) (b := b) (fun i _ hi => h i (by omega)), bS_cg (k := 185) (a := a) (b := b) (fun i _ hi => h i (by omega)), bS_cg (k := 246) (a := a) (b := b) (fun i _ hi => h i (by omega)), h 0 (by decide), h 1 (by decide), hf]
set_option maxHeartbeats 4000000 in
theorem rl_weq (cI cC cR : ClassId) (h0 : Nat) (q1 : Nat) (x2 : Nat → Nat) (q3 : Nat) (x4 : Nat → Nat) (q5 : Nat) (x6 : Nat → Nat) (r0 : Nat → Int32) (r1 : Nat → Int32) (r2 : Nat → Int32) (r3 : Nat → Int32) (r4 : Nat → Int32) (r5 : Nat → Int32) (r6 : Nat → Int32) (r7 : Nat → Int32) (r8 : Nat → Int32) : wj [[(h0, .inr (6, [.ref q1, .ref q3, .ref q5]))], [(q1, .inr (3, [.ref (sh x2 0 0), .ref (sh x2 20 0), .ref (sh x2 40 0), .int 0, .int 0]))], bC cI (sh x2 0) (r0, r1, r2, r3, 0, r4, r5, r6, r7, r8, 0, 100, 0, 0, 0, 1), bC cI (sh x2 20) (r0, r1, r2, r3, 0, r4, r5, r6, r7, r8, 0, 100, 0, 0, 0, 1), bC cI (sh x2 40) (r0, r1, r2, r3, 0, r4, r5, r6, r7, r8, 0, 100, 0, 0, 0, 1), bH cI cR (nc q3 x4) (fun _ => ((r0, r1, r2, r3, 0, r4, r5, r6, r7, r8, 0, 100, 0, 0, 0, 1), (r0, r1, r2, r3, 0, r4, r5, r6, r7, r8, 0, 100, 0, 0, 0, 1), (r0, r1, r2, r3, 0, r4, r5, r6, r7, r8, 0, 100, 0, 0, 0, 1), 0, 0)) 0 0, wX4 cC q5 (x6 0) (fun _ => 0) 0 0 0 0 0] = wj [[(h0, .inr (6, [.ref ((radr q1 x2 q3 x4 q5 x6) 0), .ref (sh (radr q1 x2 q3 x4 q5 x6) 61 0), .ref ((radr q1 x2 q3 x4 q5 x6) 368)]))], [((radr q1 x2 q3 x4 q5 x6) 0, .inr (3, [.ref (sh (radr q1 x2 q3 x4 q5 x6) 1 0), .ref (sh (radr q1 x2 q3 x4 q5 x6) 21 0), .ref (sh (radr q1 x2 q3 x4 q5 x6) 41 0), .int 0, .int 0]))], bC cI (sh (radr q1 x2 q3 x4 q5 x6) 1) (r0, r1, r2, r3, 0, r4, r5, r6, r7, r8, 0, 100, 0, 0, 0, 1), bC cI (sh (radr q1 x2 q3 x4 q5 x6) 21) (r0, r1, r2, r3, 0, r4, r5, r6, r7, r8, 0, 100, 0, 0, 0, 1), bC cI (sh (radr q1 x2 q3 x4 q5 x6) 41) (r0, r1, r2, r3, 0, r4, r5, r6, r7, r8, 0, 100, 0, 0, 0, 1), bH cI cR (sh (radr q1 x2 q3 x4 q5 x6) 61) (fun _ => ((r0, r1, r2, r3, 0, r4, r5, r6, r7, r8, 0, 100, 0, 0, 0, 1), (r0, r1, r2, r3, 0, r4, r5, r6, r7, r8, 0, 100, 0, 0, 0, 1), (r0, r1, r2, r3, 0, r4, r5, r6, r7, r8, 0, 100, 0, 0, 0, 1), 0, 0)) 0 0, wX4 cC ((radr q1 x2 q3 x4 q5 x6) 368) ((radr q1 x2 q3 x4 q5 x6) 369) (fun _ => 0) 0 0 0 0 0] := by
  have e1 : ∀ k c, k + 20 ≤ 60 → bC cI (sh (radr q1 x2 q3 x4 q5 x6) (k + 1)) c = bC cI (sh x2 k) c := fun k c hk => bC_cg (fun i hi => by
    unfold sh radr
    rw [if_pos (by omega), show k + 1 + i = (k + i) + 1 by omega]
    rfl)
  have e2 : ∀ (g : Nat → SV) nx sz, bH cI cR (sh (radr q1 x2 q3 x4 q5 x6) 61) g nx sz = bH cI cR (nc q3 x4) g nx sz := fun g nx sz => rl_bH (fun i hi => by
    unfold sh radr
    rw [if_neg (by omega), if_pos (by omega), show 61 + i - 61 = i by omega])
  rw [e1 0 _ (by decide), e1 20 _ (by decide), e1 40 _ (by decide), e2]
  rfl
abbrev rm_X6_init : Room := { frames := 6, cells := 370, slots := 5272, locals := 127 }
set_option maxHeartbeats 4000000 in
set_option maxRecDepth 100000 in
theorem ci_X6 (l : Launch) (D : va_G) (cI cC cR : ClassId) (Z : Nat) (r0 : Nat → Int32) (r1 : Nat → Int32) (r2 : Nat → Int32) (r3 : Nat → Int32) (r4 : Nat → Int32) (r5 : Nat → Int32) (r6 : Nat → Int32) (r7 : Nat → Int32) (r8 : Nat → Int32) (hC : f_X0_init Z = some (r0, r1, r2, r3, r4, r5, r6, r7, r8)) (h0 : Nat) : MNq l yX6_init cX6_init 1 none rm_X6_init D (TY cI cC cR) [.ref h0] (wj [[(h0, .inr (6, [.null, .null, .null]))]]) (fun x => wj [[(h0, .inr (6, [.ref (x 0), .ref (sh x 61 0), .ref (x 368)]))], [(x 0, .inr (3, [.ref (sh x 1 0), .ref (sh x 21 0), .ref (sh x 41 0), .int 0, .int 0]))], bC cI (sh x 1) (r0, r1, r2, r3, 0, r4, r5, r6, r7, r8, 0, 100, 0, 0, 0, 1), bC cI (sh x 21) (r0, r1, r2, r3, 0, r4, r5, r6, r7, r8, 0, 100, 0, 0, 0, 1), bC cI (sh x 41) (r0, r1, r2, r3, 0, r4, r5, r6, r7, r8, 0, 100, 0, 0, 0, 1), bH cI cR (sh x 61) (fun _ => ((r0, r1, r2, r3, 0, r4, r5, r6, r7, r8, 0, 100, 0, 0, 0, 1), (r0, r1, r2, r3, 0, r4, r5, r6, r7, r8, 0, 100, 0, 0, 0, 1), (r0, r1, r2, r3, 0, r4, r5, r6, r7, r8, 0, 100, 0, 0, 0, 1), 0, 0)) 0 0, wX4 cC (x 368) (x 369) (fun _ => 0) 0 0 0 0 0]) 370 5272 := by
  refine me_n pn_X6 rfl (Nat.le_of_ble_eq_true rfl) rfl (fun Γ X E KNh hret => ?_)
  refine kw_aload_n X dX6_init_0 rfl 0 rfl ?_
  refine kb_obj X gw_27 gw_28 gw_29 ⟨Nat.le_of_ble_eq_true rfl, Nat.le_of_ble_eq_true rfl⟩ dX6_init_1 ?_
  refine kw_aload_n X dX6_init_4 rfl 0 rfl ?_
  refine kb_new (ci := 3) (fs := [.null, .null, .null, .int 0, .int 0]) X E inX3 tyX3 tyX3_ok gw_30 gw_31 gw_13 rfl (fun j hj => by rcases (show j = 0 ∨ j = 1 ∨ j = 2 ∨ j = 3 ∨ j = 4 by omega) with rfl | rfl | rfl | rfl | rfl <;> rfl) ⟨Nat.le_of_ble_eq_true rfl, Nat.le_of_ble_eq_true rfl⟩ dX6_init_5 (fun q1 => ?_)
  refine kw_weq (ws' := wj [[(h0, .inr (6, [.null, .null, .null]))], [(q1, .inr (3, [.null, .null, .null, .int 0, .int 0]))]]) rfl ?_
  refine kw_dup X dX6_init_8 rfl ?_
  refine kb_inN X (As := []) (st := [.ref q1, .ref h0]) E (ci_X3 l D cI cC cR Z r0 r1 r2 r3 r4 r5 r6 r7 r8 hC q1) nw_0 vn_X6_11 yv_X3_init rfl ⟨Nat.le_of_ble_eq_true rfl, Nat.le_of_ble_eq_true rfl⟩ ⟨rfl, rfl⟩ ⟨Nat.le_of_ble_eq_true rfl, Nat.le_of_ble_eq_true rfl⟩ 1 rfl rfl rfl (Nat.le_of_ble_eq_true rfl) dX6_init_9 (fun x2 => ?_)
  refine kw_weq (ws' := wj [[(h0, .inr (6, [.null, .null, .null]))], [(q1, .inr (3, [.ref (sh x2 0 0), .ref (sh x2 20 0), .ref (sh x2 40 0), .int 0, .int 0]))], bC cI (sh x2 0) (r0, r1, r2, r3, 0, r4, r5, r6, r7, r8, 0, 100, 0, 0, 0, 1), bC cI (sh x2 20) (r0, r1, r2, r3, 0, r4, r5, r6, r7, r8, 0, 100, 0, 0, 0, 1), bC cI (sh x2 40) (r0, r1, r2, r3, 0, r4, r5, r6, r7, r8, 0, 100, 0, 0, 0, 1)]) (wj_last [[(h0, .inr (6, [.null, .null, .null]))]] [[(q1, .inr (3, [.ref (sh x2 0 0), .ref (sh x2 20 0), .ref (sh x2 40 0), .int 0, .int 0]))], bC cI (sh x2 0) (r0, r1, r2, r3, 0, r4, r5, r6, r7, r8, 0, 100, 0, 0, 0, 1), bC cI (sh x2 20) (r0, r1, r2, r3, 0, r4, r5, r6, r7, r8, 0, 100, 0, 0, 0, 1), bC cI (sh x2 40) (r0, r1, r2, r3, 0, r4, r5, r6, r7, r8, 0, 100, 0, 0, 0, 1)]) ?_
  refine kb_putF (t := tyX6 0) X E inX6 tyX6 tyX6_ok nmX6 0 0 rfl rfl rfl 0 (by decide) rfl KNh rfl gw_203 rfl (tyX6_ok 0 (by decide)) rfl rfl (Nat.le_of_ble_eq_true rfl) (bs' := [[(h0, .inr (6, [.ref q1, .null, .null]))], [(q1, .inr (3, [.ref (sh x2 0 0), .ref (sh x2 20 0), .ref (sh x2 40 0), .int 0, .int 0]))], bC cI (sh x2 0) (r0, r1, r2, r3, 0, r4, r5, r6, r7, r8, 0, 100, 0, 0, 0, 1), bC cI (sh x2 20) (r0, r1, r2, r3, 0, r4, r5, r6, r7, r8, 0, 100, 0, 0, 0, 1), bC cI (sh x2 40) (r0, r1, r2, r3, 0, r4, r5, r6, r7, r8, 0, 100, 0, 0, 0, 1)]) rfl dX6_init_12 ?_
  refine kw_aload_n X dX6_init_15 rfl 0 rfl ?_
  refine kb_new (ci := 1) (fs := [.null, .int 0, .int 0]) X E inX1 tyX1 tyX1_ok gw_161 gw_162 gw_19 rfl (fun j hj => by rcases (show j = 0 ∨ j = 1 ∨ j = 2 by omega) with rfl | rfl | rfl <;> rfl) ⟨Nat.le_of_ble_eq_true rfl, Nat.le_of_ble_eq_true rfl⟩ dX6_init_16 (fun q3 => ?_)
  refine kw_weq (ws' := wj [[(h0, .inr (6, [.ref q1, .null, .null]))], [(q1, .inr (3, [.ref (sh x2 0 0), .ref (sh x2 20 0), .ref (sh x2 40 0), .int 0, .int 0]))], bC cI (sh x2 0) (r0, r1, r2, r3, 0, r4, r5, r6, r7, r8, 0, 100, 0, 0, 0, 1), bC cI (sh x2 20) (r0, r1, r2, r3, 0, r4, r5, r6, r7, r8, 0, 100, 0, 0, 0, 1), bC cI (sh x2 40) (r0, r1, r2, r3, 0, r4, r5, r6, r7, r8, 0, 100, 0, 0, 0, 1), [(q3, .inr (1, [.null, .int 0, .int 0]))]]) rfl ?_
  refine kw_dup X dX6_init_19 rfl ?_
  refine kb_in X (As := []) (st := [.ref q3, .ref h0]) E (ci_X1 l D cI cC cR Z r0 r1 r2 r3 r4 r5 r6 r7 r8 hC q3) vl_X6_18 yv_X1_init rfl ⟨Nat.le_of_ble_eq_true rfl, Nat.le_of_ble_eq_true rfl⟩ ⟨rfl, rfl⟩ ⟨Nat.le_of_ble_eq_true rfl, Nat.le_of_ble_eq_true rfl⟩ 5 rfl rfl rfl (Nat.le_of_ble_eq_true rfl) dX6_init_20 (fun x4 => ?_)
  refine kw_weq (ws' := wj [[(h0, .inr (6, [.ref q1, .null, .null]))], [(q1, .inr (3, [.ref (sh x2 0 0), .ref (sh x2 20 0), .ref (sh x2 40 0), .int 0, .int 0]))], bC cI (sh x2 0) (r0, r1, r2, r3, 0, r4, r5, r6, r7, r8, 0, 100, 0, 0, 0, 1), bC cI (sh x2 20) (r0, r1, r2, r3, 0, r4, r5, r6, r7, r8, 0, 100, 0, 0, 0, 1), bC cI (sh x2 40) (r0, r1, r2, r3, 0, r4, r5, r6, r7, r8, 0, 100, 0, 0, 0, 1), bH cI cR (nc q3 x4) (fun _ => ((r0, r1, r2, r3, 0, r4, r5, r6, r7, r8, 0, 100, 0, 0, 0, 1), (r0, r1, r2, r3, 0, r4, r5, r6, r7, r8, 0, 100, 0, 0, 0, 1), (r0, r1, r2, r3, 0, r4, r5, r6, r7, r8, 0, 100, 0, 0, 0, 1), 0, 0)) 0 0]) rfl ?_
  refine kb_putF (t := tyX6 1) X E inX6 tyX6 tyX6_ok nmX6 0 0 rfl rfl rfl 1 (by decide) rfl KNh rfl gw_204 rfl (tyX6_ok 1 (by decide)) rfl rfl (Nat.le_of_ble_eq_true rfl) (bs' := [[(h0, .inr (6, [.ref q1, .ref q3, .null]))], [(q1, .inr (3, [.ref (sh x2 0 0), .ref (sh x2 20 0), .ref (sh x2 40 0), .int 0, .int 0]))], bC cI (sh x2 0) (r0, r1, r2, r3, 0, r4, r5, r6, r7, r8, 0, 100, 0, 0, 0, 1), bC cI (sh x2 20) (r0, r1, r2, r3, 0, r4, r5, r6, r7, r8, 0, 100, 0, 0, 0, 1), bC cI (sh x2 40) (r0, r1, r2, r3, 0, r4, r5, r6, r7, r8, 0, 100, 0, 0, 0, 1), bH cI cR (nc q3 x4) (fun _ => ((r0, r1, r2, r3, 0, r4, r5, r6, r7, r8, 0, 100, 0, 0, 0, 1), (r0, r1, r2, r3, 0, r4, r5, r6, r7, r8, 0, 100, 0, 0, 0, 1), (r0, r1, r2, r3, 0, r4, r5, r6, r7, r8, 0, 100, 0, 0, 0, 1), 0, 0)) 0 0]) rfl dX6_init_23 ?_
  refine kw_aload_n X dX6_init_26 rfl 0 rfl ?_
  refine kb_new (ci := 4) (fs := [.null, .int 0, .int 0, .int 0, .int 0, .int 0]) X E inX4 tyX4 tyX4_ok gw_181 gw_182 gw_20 rfl (fun j hj => by rcases (show j = 0 ∨ j = 1 ∨ j = 2 ∨ j = 3 ∨ j = 4 ∨ j = 5 by omega) with rfl | rfl | rfl | rfl | rfl | rfl <;> rfl) ⟨Nat.le_of_ble_eq_true rfl, Nat.le_of_ble_eq_true rfl⟩ dX6_init_27 (fun q5 => ?_)
  refine kw_weq (ws' := wj [[(h0, .inr (6, [.ref q1, .ref q3, .null]))], [(q1, .inr (3, [.ref (sh x2 0 0), .ref (sh x2 20 0), .ref (sh x2 40 0), .int 0, .int 0]))], bC cI (sh x2 0) (r0, r1, r2, r3, 0, r4, r5, r6, r7, r8, 0, 100, 0, 0, 0, 1), bC cI (sh x2 20) (r0, r1, r2, r3, 0, r4, r5, r6, r7, r8, 0, 100, 0, 0, 0, 1), bC cI (sh x2 40) (r0, r1, r2, r3, 0, r4, r5, r6, r7, r8, 0, 100, 0, 0, 0, 1), bH cI cR (nc q3 x4) (fun _ => ((r0, r1, r2, r3, 0, r4, r5, r6, r7, r8, 0, 100, 0, 0, 0, 1), (r0, r1, r2, r3, 0, r4, r5, r6, r7, r8, 0, 100, 0, 0, 0, 1), (r0, r1, r2, r3, 0, r4, r5, r6, r7, r8, 0, 100, 0, 0, 0, 1), 0, 0)) 0 0, [(q5, .inr (4, [.null, .int 0, .int 0, .int 0, .int 0, .int 0]))]]) rfl ?_
  refine kw_dup X dX6_init_30 rfl ?_
  refine kb_inN X (As := []) (st := [.ref q5, .ref h0]) E (c_X4_init l D cI cC cR q5) nw_25 vn_X6_25 yv_X4_init rfl ⟨Nat.le_of_ble_eq_true rfl, Nat.le_of_ble_eq_true rfl⟩ ⟨rfl, rfl⟩ ⟨Nat.le_of_ble_eq_true rfl, Nat.le_of_ble_eq_true rfl⟩ 6 rfl rfl rfl (Nat.le_of_ble_eq_true rfl) dX6_init_31 (fun x6 => ?_)
  refine kw_weq (ws' := wj [[(h0, .inr (6, [.ref q1, .ref q3, .null]))], [(q1, .inr (3, [.ref (sh x2 0 0), .ref (sh x2 20 0), .ref (sh x2 40 0), .int 0, .int 0]))], bC cI (sh x2 0) (r0, r1, r2, r3, 0, r4, r5, r6, r7, r8, 0, 100, 0, 0, 0, 1), bC cI (sh x2 20) (r0, r1, r2, r3, 0, r4, r5, r6, r7, r8, 0, 100, 0, 0, 0, 1), bC cI (sh x2 40) (r0, r1, r2, r3, 0, r4, r5, r6, r7, r8, 0, 100, 0, 0, 0, 1), bH cI cR (nc q3 x4) (fun _ => ((r0, r1, r2, r3, 0, r4, r5, r6, r7, r8, 0, 100, 0, 0, 0, 1), (r0, r1, r2, r3, 0, r4, r5, r6, r7, r8, 0, 100, 0, 0, 0, 1), (r0, r1, r2, r3, 0, r4, r5, r6, r7, r8, 0, 100, 0, 0, 0, 1), 0, 0)) 0 0, wX4 cC q5 (x6 0) (fun _ => 0) 0 0 0 0 0]) rfl ?_
  refine kb_putF (t := tyX6 2) X E inX6 tyX6 tyX6_ok nmX6 0 0 rfl rfl rfl 2 (by decide) rfl KNh rfl gw_205 rfl (tyX6_ok 2 (by decide)) rfl rfl (Nat.le_of_ble_eq_true rfl) (bs' := [[(h0, .inr (6, [.ref q1, .ref q3, .ref q5]))], [(q1, .inr (3, [.ref (sh x2 0 0), .ref (sh x2 20 0), .ref (sh x2 40 0), .int 0, .int 0]))], bC cI (sh x2 0) (r0, r1, r2, r3, 0, r4, r5, r6, r7, r8, 0, 100, 0, 0, 0, 1), bC cI (sh x2 20) (r0, r1, r2, r3, 0, r4, r5, r6, r7, r8, 0, 100, 0, 0, 0, 1), bC cI (sh x2 40) (r0, r1, r2, r3, 0, r4, r5, r6, r7, r8, 0, 100, 0, 0, 0, 1), bH cI cR (nc q3 x4) (fun _ => ((r0, r1, r2, r3, 0, r4, r5, r6, r7, r8, 0, 100, 0, 0, 0, 1), (r0, r1, r2, r3, 0, r4, r5, r6, r7, r8, 0, 100, 0, 0, 0, 1), (r0, r1, r2, r3, 0, r4, r5, r6, r7, r8, 0, 100, 0, 0, 0, 1), 0, 0)) 0 0, wX4 cC q5 (x6 0) (fun _ => 0) 0 0 0 0 0]) rfl dX6_init_34 ?_
  refine kw_weq (ws' := wj [[(h0, .inr (6, [.ref ((radr q1 x2 q3 x4 q5 x6) 0), .ref (sh (radr q1 x2 q3 x4 q5 x6) 61 0), .ref ((radr q1 x2 q3 x4 q5 x6) 368)]))], [((radr q1 x2 q3 x4 q5 x6) 0, .inr (3, [.ref (sh (radr q1 x2 q3 x4 q5 x6) 1 0), .ref (sh (radr q1 x2 q3 x4 q5 x6) 21 0), .ref (sh (radr q1 x2 q3 x4 q5 x6) 41 0), .int 0, .int 0]))], bC cI (sh (radr q1 x2 q3 x4 q5 x6) 1) (r0, r1, r2, r3, 0, r4, r5, r6, r7, r8, 0, 100, 0, 0, 0, 1), bC cI (sh (radr q1 x2 q3 x4 q5 x6) 21) (r0, r1, r2, r3, 0, r4, r5, r6, r7, r8, 0, 100, 0, 0, 0, 1), bC cI (sh (radr q1 x2 q3 x4 q5 x6) 41) (r0, r1, r2, r3, 0, r4, r5, r6, r7, r8, 0, 100, 0, 0, 0, 1), bH cI cR (sh (radr q1 x2 q3 x4 q5 x6) 61) (fun _ => ((r0, r1, r2, r3, 0, r4, r5, r6, r7, r8, 0, 100, 0, 0, 0, 1), (r0, r1, r2, r3, 0, r4, r5, r6, r7, r8, 0, 100, 0, 0, 0, 1), (r0, r1, r2, r3, 0, r4, r5, r6, r7, r8, 0, 100, 0, 0, 0, 1), 0, 0)) 0 0, wX4 cC ((radr q1 x2 q3 x4 q5 x6) 368) ((radr q1 x2 q3 x4 q5 x6) 369) (fun _ => 0) 0 0 0 0 0]) (rl_weq cI cC cR h0 q1 x2 q3 x4 q5 x6 r0 r1 r2 r3 r4 r5 r6 r7 r8) ?_
  exact hret (radr q1 x2 q3 x4 q5 x6) _ _ dX6_init_37
