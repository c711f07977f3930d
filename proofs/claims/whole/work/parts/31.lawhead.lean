def lstC (r : (Nat → Int32) × (Nat → Int32) × (Nat → Int32) × (Nat → Int32) × (Nat → Int32) × (Nat → Int32) × (Nat → Int32) × (Nat → Int32) × (Nat → Int32)) : CV := (r.1, r.2.1, r.2.2.1, r.2.2.2.1, 0, r.2.2.2.2.1, r.2.2.2.2.2.1, r.2.2.2.2.2.2.1, r.2.2.2.2.2.2.2.1, r.2.2.2.2.2.2.2.2, 0, 100, 0, 0, 0, 1)
def lst0 (C : CV) (m0 : Nat → Int32) : LST := (C, C, C, 0, 0, (fun _ => (C, C, C, 0, 0)), 0, 0, (fun _ => 0), 0, 0, 0, 0, 0, m0, (fun _ => 0), (fun _ => 0), (fun _ => 0), 0, 0, 0, 0, 0, 0, 0)
set_option maxHeartbeats 1000000 in
theorem w_L_head {Γ : KG} {w0 : Cond} (l : Launch) (D : va_G) (cI cC cR : ClassId) (sb : Nat) (X : KX Γ l room_1 D (TY cI cC cR) code 4 "RibbedLoansLaw" w0) (E : KE Γ) (Z : Nat) (r0 r1 r2 r3 r4 r5 r6 r7 r8 m0 : Nat → Int32) (hC : f_X0_init Z = some (r0, r1, r2, r3, r4, r5, r6, r7, r8)) (hM : f_X7_init Z = some m0)
    (kk : ∀ (h0 h1 t0 t1 : Nat) (a b d ah : Nat → Nat) (mo0 mo1 mo2 mo3 mo4 : Nat), KW Γ 376 11610 (lawW cI cC cR h0 h1 t0 t1 a b d ah mo0 mo1 mo2 mo3 mo4 (lst0 (lstC (r0, r1, r2, r3, r4, r5, r6, r7, r8)) m0)) [(0, .ref sb), (1, .ref h0), (2, .ref mo0), (3, .int (nI 0))] 18 []) :
    KW Γ 0 0 (wj []) [(0, .ref sb)] 0 [] := by
  refine kb_new (ci := 6) (fs := [.null, .null, .null]) X E inX6 tyX6 tyX6_ok gw_60 gw_61 gw_49 rfl (fun j hj => by rcases (show j = 0 ∨ j = 1 ∨ j = 2 by omega) with rfl | rfl | rfl <;> rfl) ⟨Nat.le_of_ble_eq_true rfl, Nat.le_of_ble_eq_true rfl⟩ dL_law_0 (fun q0 => ?_)
  refine kw_weq (ws' := wj [[(q0, .inr (6, [.null, .null, .null]))]]) rfl ?_
  refine kw_dup X dL_law_3 rfl ?_
  refine kb_in X (As := []) (st := [.ref q0]) E (by have h := ci_X6 l D cI cC cR Z r0 r1 r2 r3 r4 r5 r6 r7 r8 hC q0; rw [wj_one] at h; exact h) vl_L_9 yv_X6_init rfl ⟨Nat.le_of_ble_eq_true rfl, Nat.le_of_ble_eq_true rfl⟩ ⟨rfl, rfl⟩ ⟨Nat.le_of_ble_eq_true rfl, Nat.le_of_ble_eq_true rfl⟩ 0 rfl rfl rfl (Nat.le_of_ble_eq_true rfl) dL_law_4 (fun x => ?_)
  refine kw_astore_n (lo' := [(0, .ref sb), (1, .ref q0)]) X dL_law_7 rfl (by decide) [1, 0] rfl ?_
  refine kw_weq (ws' := wj ([[(q0, Sum.inr (6, [Value.ref (x 0), Value.ref (sh x 61 0), Value.ref (x 368)]))],
              [(x 0, Sum.inr (3, [Value.ref (sh x 1 0), Value.ref (sh x 21 0), Value.ref (sh x 41 0), Value.int 0, Value.int 0]))],
              bC cI (sh x 1) (lstC (r0, r1, r2, r3, r4, r5, r6, r7, r8)),
              bC cI (sh x 21) (lstC (r0, r1, r2, r3, r4, r5, r6, r7, r8)),
              bC cI (sh x 41) (lstC (r0, r1, r2, r3, r4, r5, r6, r7, r8)),
              bH cI cR (sh x 61) (fun _ => (lstC (r0, r1, r2, r3, r4, r5, r6, r7, r8), lstC (r0, r1, r2, r3, r4, r5, r6, r7, r8), lstC (r0, r1, r2, r3, r4, r5, r6, r7, r8), 0, 0)) 0 0,
              wX4 cC (x 368) (x 369) (fun (x : Nat) => 0) 0 0 0 0 0])) (wj_one _) ?_
  refine kb_new (ci := 7) (fs := [.null, .null, .null, .int 0, .null, .int 0, .int 0, .int 0, .int 0, .int 0, .int 0]) X E inX7 tyX7 tyX7_ok gw_692 gw_693 gw_58 rfl (fun j hj => by rcases (show j = 0 ∨ j = 1 ∨ j = 2 ∨ j = 3 ∨ j = 4 ∨ j = 5 ∨ j = 6 ∨ j = 7 ∨ j = 8 ∨ j = 9 ∨ j = 10 by omega) with rfl | rfl | rfl | rfl | rfl | rfl | rfl | rfl | rfl | rfl | rfl <;> rfl) ⟨Nat.le_of_ble_eq_true rfl, Nat.le_of_ble_eq_true rfl⟩ dL_law_8 (fun q1 => ?_)
  refine kw_dup X dL_law_11 rfl ?_
  refine kb_in X (As := []) (st := [.ref q1]) E (by have h := c_X7_init l D cI cC cR q1 Z m0 hM; rw [wj_one] at h; exact h) vl_L_12 yv_X7_init rfl ⟨Nat.le_of_ble_eq_true rfl, Nat.le_of_ble_eq_true rfl⟩ ⟨rfl, rfl⟩ ⟨Nat.le_of_ble_eq_true rfl, Nat.le_of_ble_eq_true rfl⟩ 7 rfl rfl rfl (Nat.le_of_ble_eq_true rfl) dL_law_12 (fun y => ?_)
  refine kw_astore_n (lo' := [(0, .ref sb), (1, .ref q0), (2, .ref q1)]) X dL_law_15 rfl (by decide) [1, 2, 0] rfl ?_
  refine kw_iconst (v := nI 0) X dL_law_16 rfl ?_
  refine kw_istore_n (lo' := [(0, .ref sb), (1, .ref q0), (2, .ref q1), (3, .int (nI 0))]) X dL_law_17 rfl (by decide) [1, 2, 3, 0] rfl ?_
  exact kk q0 (x 0) (x 368) (x 369) (sh x 1) (sh x 21) (sh x 41) (sh x 61) q1 (y 0) (y 1) (y 2) (y 3)
