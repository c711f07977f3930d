def ovC (r : (Nat → Int32) × (Nat → Int32) × (Nat → Int32) × (Nat → Int32) × (Nat → Int32) × (Nat → Int32) × (Nat → Int32) × (Nat → Int32) × (Nat → Int32)) : CV := (r.1, r.2.1, r.2.2.1, r.2.2.2.1, 0, r.2.2.2.2.1, r.2.2.2.2.2.1, r.2.2.2.2.2.2.1, r.2.2.2.2.2.2.2.1, r.2.2.2.2.2.2.2.2, 0, 100, 0, 0, 0, 1)
def ov0 (C : CV) : OV := (C, C, C, 0, 0, (fun _ => (C, C, C, 0, 0)), 0, 0, (fun _ => 0), 0, 0, 0, 0, 0)
theorem b01p_in {x : Option Int32} (h : x = some 1) : b01p x = some 1 := by rw [h]; rfl
theorem lt_2n {i : Nat} (h : i < 1000) : (2 : Int32) * nI i = nI (2 * i) := by rw [show (2 : Int32) = nI 2 from rfl]; simp [nI]
theorem lt_np {i : Nat} (h : i < 10000) : ¬ nI i < 0 := nI_pos (by omega)
set_option maxHeartbeats 2000000 in
theorem w_L_loop {Γ : KG} {w0 : Cond} (l : Launch) (D : va_G) (cI cC cR : ClassId) (sb L : Nat) (xs : Nat → Int32) (X : KX Γ l room_1 D (TY cI cC cR) code 4 "RibbedLoansLaw" w0) (E : KE Γ) (S : KL Γ sb L xs) (hL : L ≤ 260) (h0 h1 t0 t1 : Nat) (a b d ah : Nat → Nat) (Z : Nat) (Rel : Nat → OV → Prop) (hA : ∀ i v x y, i < 30 → Rel i v → ∃ v1, f_L_acts Z v x y = some (1, v1) ∧ Rel (i + 1) v1) (hP : ∀ i v, Rel i v → f_L_places Z v = some 1) (hC : ∀ i v, Rel i v → f_L_coins Z v = some 1)
    (hend : ∀ v (n z : Nat), n ≤ 5000 → z ≤ 20000 → Rel 30 v → KW Γ n z (wj [bO cI cC cR h0 h1 t0 t1 a b d ah v]) [(0, .ref sb), (1, .ref h0), (2, .int 1), (3, .int (nI 30))] 144 [.int 1]) :
    ∀ (k i : Nat) (v : OV), 30 - i = k → 1 ≤ i → i ≤ 30 → Rel i v → KW Γ (400 + 4 * i) (6000 + 85 * i) (wj [bO cI cC cR h0 h1 t0 t1 a b d ah v]) [(0, .ref sb), (1, .ref h0), (2, .int 1), (3, .int (nI i))] 84 [] := by
  intro k
  induction k with
  | zero =>
    intro i v hk hi1 hi hv
    have e : i = 30 := by omega
    subst e
    refine kw_iload_n X dL_law_84 rfl 3 rfl ?_
    refine kw_bipush X dL_law_85 cb_30 ?_
    refine kw_icmp_ge X 143 dL_law_87 (by decide) (fun q => ?_) (fun q => ?_)
    · exact kw_iload_n X dL_law_143 rfl 2 rfl (hend v _ _ (by omega) (by omega) hv)
    · exact absurd q (by decide)
  | succ k ih =>
    intro i v hk hi1 hi hv
    obtain ⟨v1, ha, hv1⟩ := hA i v (f_L_lot L xs (nI (2 * i))) (f_L_lot L xs (nI (2 * i + 1))) (by omega) hv
    refine kw_iload_n X dL_law_84 rfl 3 rfl ?_
    refine kw_bipush X dL_law_85 cb_30 ?_
    refine kw_icmp_ge X 143 dL_law_87 (by decide) (fun q => ?_) (fun q => ?_)
    · exact absurd (show nI i < nI 30 from nI_lt (by omega) (by omega)) q
    · refine kw_iload_n X dL_law_90 rfl 2 rfl ?_
      refine kw_if_eq X 143 dL_law_91 (by decide) (fun q => absurd q (by decide)) (fun q => ?_)
      refine kw_aload_n X dL_law_94 rfl 1 rfl ?_
      refine kw_aload_n X dL_law_95 rfl 0 rfl ?_
      refine kw_iconst X dL_law_96 ci_2 ?_
      refine kw_iload_n X dL_law_97 rfl 3 rfl ?_
      refine kw_imul X dL_law_98 ?_
      rw [lt_2n (by omega)]
      refine kl_ssc X S (r := .int (f_L_lot L xs (nI (2 * i)))) (As := [.ref sb, .int (nI (2 * i))]) (st := [.ref h0]) (c_L_lot l D cI cC cR sb L xs (by omega) _ (lt_np (by omega))) vl_L_94 yv_L_lot ⟨Nat.le_of_ble_eq_true rfl, Nat.le_of_ble_eq_true rfl⟩ ⟨rfl, rfl⟩ ⟨by show _ ≤ 600000; omega, by show _ ≤ 7302250; omega⟩ rfl rfl (Nat.le_of_ble_eq_true rfl) dL_law_99 ?_
      refine kw_aload_n X dL_law_102 rfl 0 rfl ?_
      refine kw_iconst X dL_law_103 ci_2 ?_
      refine kw_iload_n X dL_law_104 rfl 3 rfl ?_
      refine kw_imul X dL_law_105 ?_
      refine kw_iconst X dL_law_106 ci_1 ?_
      refine kw_iadd X dL_law_107 ?_
      rw [lt_2n (by omega), show nI (2 * i) + 1 = nI (2 * i + 1) from nI_add (2 * i) 1]
      refine kl_ssc X S (r := .int (f_L_lot L xs (nI (2 * i + 1)))) (As := [.ref sb, .int (nI (2 * i + 1))]) (st := [.int (f_L_lot L xs (nI (2 * i))), .ref h0]) (c_L_lot l D cI cC cR sb L xs (by omega) _ (lt_np (by omega))) vl_L_94 yv_L_lot ⟨Nat.le_of_ble_eq_true rfl, Nat.le_of_ble_eq_true rfl⟩ ⟨rfl, rfl⟩ ⟨by show _ ≤ 600000; omega, by show _ ≤ 7302250; omega⟩ rfl rfl (Nat.le_of_ble_eq_true rfl) dL_law_108 ?_
      refine kb_sen X (r := .int 1) (As := [.ref h0, .int (f_L_lot L xs (nI (2 * i))), .int (f_L_lot L xs (nI (2 * i + 1)))]) (st := []) (bs' := [bO cI cC cR h0 h1 t0 t1 a b d ah v1]) (mc := 2) (ms := 72) E (c_L_acts l D cI cC cR h0 h1 t0 t1 a b d ah v _ _ Z 1 v1 ha) vl_L_98 yv_L_acts ⟨Nat.le_of_ble_eq_true rfl, Nat.le_of_ble_eq_true rfl⟩ ⟨rfl, rfl⟩ ⟨by show _ ≤ 600000; omega, by show _ ≤ 7302250; omega⟩ 0 rfl rfl rfl (Nat.le_of_ble_eq_true rfl) dL_law_111 bO_same rfl ?_
      refine kw_if_eq X 135 dL_law_114 (by decide) (fun q => absurd q (by decide)) (fun q => ?_)
      refine kw_aload_n X dL_law_117 rfl 1 rfl ?_
      refine kb_sen X (r := .int 1) (As := [.ref h0]) (st := []) (bs' := [bO cI cC cR h0 h1 t0 t1 a b d ah v1]) (mc := 2) (ms := 13) E (c_L_places l D cI cC cR h0 h1 t0 t1 a b d ah v1 Z 1 (hP _ v1 hv1)) vl_L_87 yv_L_places ⟨Nat.le_of_ble_eq_true rfl, Nat.le_of_ble_eq_true rfl⟩ ⟨rfl, rfl⟩ ⟨by show _ ≤ 600000; omega, by show _ ≤ 7302250; omega⟩ 0 rfl rfl rfl (Nat.le_of_ble_eq_true rfl) dL_law_118 bO_same rfl ?_
      refine kw_if_eq X 135 dL_law_121 (by decide) (fun q => absurd q (by decide)) (fun q => ?_)
      refine kw_aload_n X dL_law_124 rfl 1 rfl ?_
      refine kb_sen X (r := .int 1) (As := [.ref h0]) (st := []) (bs' := [bO cI cC cR h0 h1 t0 t1 a b d ah v1]) (mc := 0) (ms := 0) E (c_L_coins l D cI cC cR h0 h1 t0 t1 a b d ah v1 Z 1 (hC _ v1 hv1)) vl_L_91 yv_L_coins ⟨Nat.le_of_ble_eq_true rfl, Nat.le_of_ble_eq_true rfl⟩ ⟨rfl, rfl⟩ ⟨by show _ ≤ 600000; omega, by show _ ≤ 7302250; omega⟩ 0 rfl rfl rfl (Nat.le_of_ble_eq_true rfl) dL_law_125 bO_same rfl ?_
      refine kw_if_eq X 135 dL_law_128 (by decide) (fun q => absurd q (by decide)) (fun q => ?_)
      refine kw_iconst X dL_law_131 ci_1 ?_
      refine kw_goto X 136 dL_law_132 (by decide) ?_
      refine kw_istore_n (lo' := [(0, .ref sb), (1, .ref h0), (2, .int 1), (3, .int (nI i))]) X dL_law_136 rfl (by decide) [1, 2, 0, 3] rfl ?_
      refine kw_iinc (lo' := [(0, .ref sb), (1, .ref h0), (2, .int 1), (3, .int (nI (i + 1)))]) X dL_law_137 3 rfl (show nI i + Int32.ofInt 1 = nI (i + 1) from nI_add i 1) (by decide) [1, 2, 3, 0] rfl ?_
      refine kw_goto X 84 dL_law_140 (by decide) ?_
      exact kw_widen (by omega) (by omega) (ih (i + 1) v1 (by omega) (by omega) (by omega) hv1)
set_option maxHeartbeats 2000000 in
theorem w_L_head {Γ : KG} {w0 : Cond} (l : Launch) (D : va_G) (cI cC cR : ClassId) (sb L : Nat) (xs : Nat → Int32) (X : KX Γ l room_1 D (TY cI cC cR) code 4 "RibbedLoansLaw" w0) (E : KE Γ) (S : KL Γ sb L xs) (hL : L ≤ 260) (Z : Nat) (r0 r1 r2 r3 r4 r5 r6 r7 r8 : Nat → Int32) (hC0 : f_X0_init Z = some (r0, r1, r2, r3, r4, r5, r6, r7, r8)) (v1 v2 v3 v4 v5 : OV) (hp : f_L_places Z (ov0 (ovC (r0, r1, r2, r3, r4, r5, r6, r7, r8))) = some 1) (hc : f_L_coins Z (ov0 (ovC (r0, r1, r2, r3, r4, r5, r6, r7, r8))) = some 1) (hu : m_undo (ov0 (ovC (r0, r1, r2, r3, r4, r5, r6, r7, r8))) = some (-2, v1)) (hr : m_restore v1 0 = some (-2, v2)) (hb : m_buy Z v2 0 4 = some (0, v3)) (hu2 : m_undo v3 = some (0, v4)) (hb2 : m_buy Z v4 (f_L_low (f_L_lot L xs 0) 8) 6 = some (0, v5))
    (kk : ∀ (h0 h1 t0 t1 : Nat) (a b d ah : Nat → Nat), KW Γ 404 6085 (wj [bO cI cC cR h0 h1 t0 t1 a b d ah v5]) [(0, .ref sb), (1, .ref h0), (2, .int 1), (3, .int (nI 1))] 84 []) :
    KW Γ 0 0 (wj []) [(0, .ref sb)] 0 [] := by
  refine kb_new (ci := 6) (fs := [.null, .null, .null]) X E inX6 tyX6 tyX6_ok gw_22 gw_23 gw_12 rfl (fun j hj => by rcases (show j = 0 ∨ j = 1 ∨ j = 2 by omega) with rfl | rfl | rfl <;> rfl) ⟨Nat.le_of_ble_eq_true rfl, Nat.le_of_ble_eq_true rfl⟩ dL_law_0 (fun q0 => ?_)
  refine kw_weq (ws' := wj [[(q0, .inr (6, [.null, .null, .null]))]]) rfl ?_
  refine kw_dup X dL_law_3 rfl ?_
  refine kb_in X (As := []) (st := [.ref q0]) E (by have h := ci_X6 l D cI cC cR Z r0 r1 r2 r3 r4 r5 r6 r7 r8 hC0 q0; rw [wj_one] at h; exact h) vl_L_86 yv_X6_init rfl ⟨Nat.le_of_ble_eq_true rfl, Nat.le_of_ble_eq_true rfl⟩ ⟨rfl, rfl⟩ ⟨Nat.le_of_ble_eq_true rfl, Nat.le_of_ble_eq_true rfl⟩ 0 rfl rfl rfl (Nat.le_of_ble_eq_true rfl) dL_law_4 (fun x => ?_)
  refine kw_astore_n (lo' := [(0, .ref sb), (1, .ref q0)]) X dL_law_7 rfl (by decide) [1, 0] rfl ?_
  refine kw_weq (ws' := wj [bO cI cC cR q0 (x 0) (x 368) (x 369) (sh x 1) (sh x 21) (sh x 41) (sh x 61) (ov0 (ovC (r0, r1, r2, r3, r4, r5, r6, r7, r8)))]) rfl ?_
  refine kw_aload_n X dL_law_8 rfl 1 rfl ?_
  refine kb_sen X (r := .int 1) (As := [.ref q0]) (st := []) (bs' := [bO cI cC cR q0 (x 0) (x 368) (x 369) (sh x 1) (sh x 21) (sh x 41) (sh x 61) (ov0 (ovC (r0, r1, r2, r3, r4, r5, r6, r7, r8)))]) (mc := 2) (ms := 13) E (c_L_places l D cI cC cR q0 (x 0) (x 368) (x 369) (sh x 1) (sh x 21) (sh x 41) (sh x 61) (ov0 (ovC (r0, r1, r2, r3, r4, r5, r6, r7, r8))) Z 1 hp) vl_L_87 yv_L_places ⟨Nat.le_of_ble_eq_true rfl, Nat.le_of_ble_eq_true rfl⟩ ⟨rfl, rfl⟩ ⟨Nat.le_of_ble_eq_true rfl, Nat.le_of_ble_eq_true rfl⟩ 0 rfl rfl rfl (Nat.le_of_ble_eq_true rfl) dL_law_9 bO_same rfl ?_
  refine kw_if_eq X 80 dL_law_12 (by decide) (fun q => absurd q (by decide)) (fun q => ?_)
  refine kw_aload_n X dL_law_15 rfl 1 rfl ?_
  refine kb_sen X (r := .int 1) (As := [.ref q0]) (st := []) (bs' := [bO cI cC cR q0 (x 0) (x 368) (x 369) (sh x 1) (sh x 21) (sh x 41) (sh x 61) (ov0 (ovC (r0, r1, r2, r3, r4, r5, r6, r7, r8)))]) (mc := 0) (ms := 0) E (c_L_coins l D cI cC cR q0 (x 0) (x 368) (x 369) (sh x 1) (sh x 21) (sh x 41) (sh x 61) (ov0 (ovC (r0, r1, r2, r3, r4, r5, r6, r7, r8))) Z 1 hc) vl_L_91 yv_L_coins ⟨Nat.le_of_ble_eq_true rfl, Nat.le_of_ble_eq_true rfl⟩ ⟨rfl, rfl⟩ ⟨Nat.le_of_ble_eq_true rfl, Nat.le_of_ble_eq_true rfl⟩ 0 rfl rfl rfl (Nat.le_of_ble_eq_true rfl) dL_law_16 bO_same rfl ?_
  refine kw_if_eq X 80 dL_law_19 (by decide) (fun q => absurd q (by decide)) (fun q => ?_)
  refine kw_aload_n X dL_law_22 rfl 1 rfl ?_
  refine kb_aei X (r := .int (-2)) (As := []) (st := []) (bs' := [bO cI cC cR q0 (x 0) (x 368) (x 369) (sh x 1) (sh x 21) (sh x 41) (sh x 61) v1]) E (cm_undo l D cI cC cR q0 (x 0) (x 368) (x 369) (sh x 1) (sh x 21) (sh x 41) (sh x 61) (ov0 (ovC (r0, r1, r2, r3, r4, r5, r6, r7, r8))) (-2) v1 hu) vl_L_53 yv_X6_undo ⟨Nat.le_of_ble_eq_true rfl, Nat.le_of_ble_eq_true rfl⟩ ⟨rfl, rfl⟩ ⟨Nat.le_of_ble_eq_true rfl, Nat.le_of_ble_eq_true rfl⟩ 0 0 rfl bO_0 rfl rfl rfl (Nat.le_of_ble_eq_true rfl) dL_law_23 ((bO cI cC cR q0 (x 0) (x 368) (x 369) (sh x 1) (sh x 21) (sh x 41) (sh x 61) (ov0 (ovC (r0, r1, r2, r3, r4, r5, r6, r7, r8)))).map (·.1)) bO_same rfl rfl ?_
  refine kw_bipush X dL_law_26 cb_m2 ?_
  refine kw_icmp_ne X 80 dL_law_28 (by decide) (fun q => absurd rfl q) (fun q => ?_)
  refine kw_aload_n X dL_law_31 rfl 1 rfl ?_
  refine kw_iconst X dL_law_32 ci_0 ?_
  refine kb_aei X (r := .int (-2)) (As := [.int 0]) (st := []) (bs' := [bO cI cC cR q0 (x 0) (x 368) (x 369) (sh x 1) (sh x 21) (sh x 41) (sh x 61) v2]) E (cm_restore l D cI cC cR q0 (x 0) (x 368) (x 369) (sh x 1) (sh x 21) (sh x 41) (sh x 61) v1 0 (-2) v2 hr) vl_L_83 yv_X6_restore ⟨Nat.le_of_ble_eq_true rfl, Nat.le_of_ble_eq_true rfl⟩ ⟨rfl, rfl⟩ ⟨Nat.le_of_ble_eq_true rfl, Nat.le_of_ble_eq_true rfl⟩ 0 0 rfl bO_0 rfl rfl rfl (Nat.le_of_ble_eq_true rfl) dL_law_33 ((bO cI cC cR q0 (x 0) (x 368) (x 369) (sh x 1) (sh x 21) (sh x 41) (sh x 61) v1).map (·.1)) bO_same rfl rfl ?_
  refine kw_bipush X dL_law_36 cb_m2 ?_
  refine kw_icmp_ne X 80 dL_law_38 (by decide) (fun q => absurd rfl q) (fun q => ?_)
  refine kw_aload_n X dL_law_41 rfl 1 rfl ?_
  refine kw_iconst X dL_law_42 ci_0 ?_
  refine kw_iconst X dL_law_43 ci_4 ?_
  refine kb_aei X (r := .int (0)) (As := [.int 0, .int 4]) (st := []) (bs' := [bO cI cC cR q0 (x 0) (x 368) (x 369) (sh x 1) (sh x 21) (sh x 41) (sh x 61) v3]) E (cm_buy l D cI cC cR q0 (x 0) (x 368) (x 369) (sh x 1) (sh x 21) (sh x 41) (sh x 61) v2 0 4 Z 0 v3 hb) vl_L_44 yv_X6_buy ⟨Nat.le_of_ble_eq_true rfl, Nat.le_of_ble_eq_true rfl⟩ ⟨rfl, rfl⟩ ⟨Nat.le_of_ble_eq_true rfl, Nat.le_of_ble_eq_true rfl⟩ 0 0 rfl bO_0 rfl rfl rfl (Nat.le_of_ble_eq_true rfl) dL_law_44 ((bO cI cC cR q0 (x 0) (x 368) (x 369) (sh x 1) (sh x 21) (sh x 41) (sh x 61) v2).map (·.1)) bO_same rfl rfl ?_
  refine kw_if_ne X 80 dL_law_47 (by decide) (fun q => absurd rfl q) (fun q => ?_)
  refine kw_aload_n X dL_law_50 rfl 1 rfl ?_
  refine kb_aei X (r := .int (0)) (As := []) (st := []) (bs' := [bO cI cC cR q0 (x 0) (x 368) (x 369) (sh x 1) (sh x 21) (sh x 41) (sh x 61) v4]) E (cm_undo l D cI cC cR q0 (x 0) (x 368) (x 369) (sh x 1) (sh x 21) (sh x 41) (sh x 61) v3 0 v4 hu2) vl_L_53 yv_X6_undo ⟨Nat.le_of_ble_eq_true rfl, Nat.le_of_ble_eq_true rfl⟩ ⟨rfl, rfl⟩ ⟨Nat.le_of_ble_eq_true rfl, Nat.le_of_ble_eq_true rfl⟩ 0 0 rfl bO_0 rfl rfl rfl (Nat.le_of_ble_eq_true rfl) dL_law_51 ((bO cI cC cR q0 (x 0) (x 368) (x 369) (sh x 1) (sh x 21) (sh x 41) (sh x 61) v3).map (·.1)) bO_same rfl rfl ?_
  refine kw_if_ne X 80 dL_law_54 (by decide) (fun q => absurd rfl q) (fun q => ?_)
  refine kw_aload_n X dL_law_57 rfl 1 rfl ?_
  refine kw_aload_n X dL_law_58 rfl 0 rfl ?_
  refine kw_iconst X dL_law_59 ci_0 ?_
  refine kl_ssc X S (r := .int (f_L_lot L xs 0)) (As := [.ref sb, .int 0]) (st := [.ref q0]) (c_L_lot l D cI cC cR sb L xs (by omega) _ (by decide)) vl_L_94 yv_L_lot ⟨Nat.le_of_ble_eq_true rfl, Nat.le_of_ble_eq_true rfl⟩ ⟨rfl, rfl⟩ ⟨Nat.le_of_ble_eq_true rfl, Nat.le_of_ble_eq_true rfl⟩ rfl rfl (Nat.le_of_ble_eq_true rfl) dL_law_60 ?_
  refine kw_bipush X dL_law_63 cb_8 ?_
  refine kw_sp X (r := .int (f_L_low (f_L_lot L xs 0) 8)) (As := [.int (f_L_lot L xs 0), .int 8]) (st := [.ref q0]) (c_L_low l D cI cC cR (f_L_lot L xs 0) 8 (by decide)) vl_L_41 yv_L_low ⟨Nat.le_of_ble_eq_true rfl, Nat.le_of_ble_eq_true rfl⟩ ⟨rfl, rfl⟩ ⟨Nat.le_of_ble_eq_true rfl, Nat.le_of_ble_eq_true rfl⟩ [] rfl rfl rfl rfl (Nat.le_of_ble_eq_true rfl) dL_law_65 ?_
  refine kw_bipush X dL_law_68 cb_6 ?_
  refine kb_aei X (r := .int (0)) (As := [.int (f_L_low (f_L_lot L xs 0) 8), .int 6]) (st := []) (bs' := [bO cI cC cR q0 (x 0) (x 368) (x 369) (sh x 1) (sh x 21) (sh x 41) (sh x 61) v5]) E (cm_buy l D cI cC cR q0 (x 0) (x 368) (x 369) (sh x 1) (sh x 21) (sh x 41) (sh x 61) v4 _ 6 Z 0 v5 hb2) vl_L_44 yv_X6_buy ⟨Nat.le_of_ble_eq_true rfl, Nat.le_of_ble_eq_true rfl⟩ ⟨rfl, rfl⟩ ⟨Nat.le_of_ble_eq_true rfl, Nat.le_of_ble_eq_true rfl⟩ 0 0 rfl bO_0 rfl rfl rfl (Nat.le_of_ble_eq_true rfl) dL_law_70 ((bO cI cC cR q0 (x 0) (x 368) (x 369) (sh x 1) (sh x 21) (sh x 41) (sh x 61) v4).map (·.1)) bO_same rfl rfl ?_
  refine kw_if_ne X 80 dL_law_73 (by decide) (fun q => absurd rfl q) (fun q => ?_)
  refine kw_iconst X dL_law_76 ci_1 ?_
  refine kw_goto X 81 dL_law_77 (by decide) ?_
  refine kw_istore_n (lo' := [(0, .ref sb), (1, .ref q0), (2, .int 1)]) X dL_law_81 rfl (by decide) [1, 2, 0] rfl ?_
  refine kw_iconst (v := nI 1) X dL_law_82 rfl ?_
  refine kw_istore_n (lo' := [(0, .ref sb), (1, .ref q0), (2, .int 1), (3, .int (nI 1))]) X dL_law_83 rfl (by decide) [1, 2, 3, 0] rfl ?_
  refine kw_widen (n' := 404) (z' := 6085) (by decide) (by decide) ?_
  exact kk q0 (x 0) (x 368) (x 369) (sh x 1) (sh x 21) (sh x 41) (sh x 61)
