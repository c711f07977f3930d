-- X6_buy
def f_X6_buy (Z : Nat) (c : CV) (s0 : CV) (s1 : CV) (k0 : Int32) (k1 : Int32) (g : Nat → SV) (nx : Nat) (sz : Int32) (p1 : Int32) (p2 : Int32) : Option (Int32 × CV × (Nat → SV) × Nat × Int32) :=
  (ob1 (f_X0_buyingError Z c.2.2.2.1 c.2.2.2.2.1 c.2.2.2.2.2.1 c.2.2.2.2.2.2.2.2.2.2.2.1 p1 p2) (fun (b1 : Int32) => (if b1 = 0 then (pl3 (f_X1_record g nx sz c s0 s1 k0 k1) (fun (m3 : Nat → SV) (m4 : Nat) (b5 : Int32) => (ob6 (f_X0_purchase Z c.1 c.2.2.2.1 c.2.2.2.2.1 c.2.2.2.2.2.2.2.2.2.2.2.1 c.2.2.2.2.2.2.2.2.2.2.2.2.1 p1 p2) (fun (b6 : Int32) (m7 : Nat → Int32) (m8 : Nat → Int32) (b9 : Int32) (b10 : Int32) (b11 : Int32) => (some (b6, (m7, c.2.1, c.2.2.1, m8, b9, c.2.2.2.2.2.1, c.2.2.2.2.2.2.1, c.2.2.2.2.2.2.2.1, c.2.2.2.2.2.2.2.2.1, c.2.2.2.2.2.2.2.2.2.1, c.2.2.2.2.2.2.2.2.2.2.1, b10, b11, c.2.2.2.2.2.2.2.2.2.2.2.2.2.1, c.2.2.2.2.2.2.2.2.2.2.2.2.2.2.1, c.2.2.2.2.2.2.2.2.2.2.2.2.2.2.2), m3, m4, b5)))))) else (some (b1, c, g, nx, sz)))))
abbrev rm_X6_buy : Room := { frames := 6, cells := 0, slots := 0, locals := 132 }
set_option maxHeartbeats 4000000 in
set_option maxRecDepth 100000 in
theorem c_X6_buy (l : Launch) (D : va_G) (cI cC cR : ClassId) (h0 h1 t0 t1 : Nat) (a b d ah : Nat → Nat) (c : CV) (s0 : CV) (s1 : CV) (k0 : Int32) (k1 : Int32) (g : Nat → SV) (nx : Nat) (sz : Int32) (ch : Nat → Int32) (len : Int32) (cur : Int32) (verb : Int32) (fi : Int32) (se : Int32) (p1 : Int32) (p2 : Int32) (hb_k0 : k0 = 0 ∨ k0 = 1) (hb_k1 : k1 = 0 ∨ k1 = 1) (hnx : nx < 5) (hb_g : ∀ i, ((g i).2.2.2.1 = 0 ∨ (g i).2.2.2.1 = 1) ∧ ((g i).2.2.2.2 = 0 ∨ (g i).2.2.2.2 = 1)) (Z : Nat) (r : Int32) (c' : CV) (g' : Nat → SV) (nx' : Nat) (sz' : Int32) (hF : f_X6_buy Z c s0 s1 k0 k1 g nx sz p1 p2 = some (r, c', g', nx', sz')) : MEq l yX6_buy cX6_buy 4 (some .int) rm_X6_buy D (TY cI cC cR) [.ref h0, .int p1, .int p2] (wj [[(h0, .inr (6, [.ref h1, .ref (ah 0), .ref t0]))], [(h1, .inr (3, [.ref (a 0), .ref (b 0), .ref (d 0), .int k0, .int k1]))], bC cI a c, bC cI b s0, bC cI d s1, bH cI cR ah g nx sz, wX4 cC t0 t1 ch len cur verb fi se]) (wj [[(h0, .inr (6, [.ref h1, .ref (ah 0), .ref t0]))], [(h1, .inr (3, [.ref (a 0), .ref (b 0), .ref (d 0), .int k0, .int k1]))], bC cI a c', bC cI b s0, bC cI d s1, bH cI cR ah g' nx' sz', wX4 cC t0 t1 ch len cur verb fi se]) (some (.int r)) := by
  refine me_e pn_X6 (Nat.le_of_ble_eq_true rfl) rfl (fun Γ X E hret => ?_)
  unfold f_X6_buy at hF
  refine kw_aload_n X dX6_buy_0 rfl 0 rfl ?_
  refine kb_get X inX6 0 0 rfl rfl rfl 0 (by decide) rfl gw_203 rfl dX6_buy_1 ?_
  refine kb_getN X inX3 1 0 rfl rfl rfl 0 (by decide) rfl nw_22 rfl dX6_buy_4 ?_
  refine kw_iload_n X dX6_buy_7 rfl 1 rfl ?_
  refine kw_iload_n X dX6_buy_8 rfl 2 rfl ?_
  obtain ⟨b1, hx1, hF⟩ := ob1_ex hF
  refine kb_ap X (r := .int b1) (As := [.int p1, .int p2]) (st := []) (c_X0_buyingError l D cI cC cR (a 0) (a 1) (a 2) (a 3) (a 4) (a 5) (a 6) (a 7) (a 8) (a 9) (a 10) (a 11) (a 12) (a 13) (a 14) (a 15) (a 16) (a 17) (a 18) (a 19) c.1 c.2.1 c.2.2.1 c.2.2.2.1 c.2.2.2.2.1 c.2.2.2.2.2.1 c.2.2.2.2.2.2.1 c.2.2.2.2.2.2.2.1 c.2.2.2.2.2.2.2.2.1 c.2.2.2.2.2.2.2.2.2.1 c.2.2.2.2.2.2.2.2.2.2.1 c.2.2.2.2.2.2.2.2.2.2.2.1 c.2.2.2.2.2.2.2.2.2.2.2.2.1 c.2.2.2.2.2.2.2.2.2.2.2.2.2.1 c.2.2.2.2.2.2.2.2.2.2.2.2.2.2.1 c.2.2.2.2.2.2.2.2.2.2.2.2.2.2.2 p1 p2 Z b1 hx1) vl_X6_34 yv_X0_buyingError ⟨Nat.le_of_ble_eq_true rfl, Nat.le_of_ble_eq_true rfl⟩ ⟨rfl, rfl⟩ ⟨Nat.zero_le _, Nat.zero_le _⟩ 2 0 rfl rfl rfl rfl rfl (Nat.le_of_ble_eq_true rfl) dX6_buy_9 ?_
  refine kw_istore_n (lo' := [(0, .ref h0), (1, .int p1), (2, .int p2), (3, .int b1)]) X dX6_buy_12 rfl (by decide) [1, 2, 3, 0] rfl ?_
  refine kw_iload_n X dX6_buy_13 rfl 3 rfl ?_
  refine kw_if_eq X 19 dX6_buy_14 (by decide) (fun q2 => ?_) (fun q2 => ?_)
  · replace hF := (if_pos q2).symm.trans hF
    refine kw_aload_n X dX6_buy_19 rfl 0 rfl ?_
    refine kb_get X inX6 0 0 rfl rfl rfl 1 (by decide) rfl gw_204 rfl dX6_buy_20 ?_
    refine kw_aload_n X dX6_buy_23 rfl 0 rfl ?_
    refine kb_get X inX6 0 0 rfl rfl rfl 0 (by decide) rfl gw_203 rfl dX6_buy_24 ?_
    obtain ⟨m3, m4, b5, hx5, hF⟩ := pl3_ex hF
    refine kb_mev X (As := [.ref h1]) (st := []) (bs' := [[(h0, .inr (6, [.ref h1, .ref (ah 0), .ref t0]))], [(h1, .inr (3, [.ref (a 0), .ref (b 0), .ref (d 0), .int k0, .int k1]))], bC cI a c, bC cI b s0, bC cI d s1, bH cI cR ah m3 m4 b5, wX4 cC t0 t1 ch len cur verb fi se]) E (c_X1_record l D cI cC cR ah h1 a b d g nx sz c s0 s1 k0 k1 hnx hb_k0 hb_k1 m3 m4 b5 hx5) vl_X6_40 yv_X1_record ⟨Nat.le_of_ble_eq_true rfl, Nat.le_of_ble_eq_true rfl⟩ ⟨rfl, rfl⟩ ⟨Nat.zero_le _, Nat.zero_le _⟩ 5 0 rfl rfl rfl [5, 1, 2, 3, 4] rfl rfl rfl rfl (Nat.le_of_ble_eq_true rfl) dX6_buy_27 (wa_c bH_same (wa_c rfl (wa_c rfl (wa_c rfl (wa_c rfl rfl))))) rfl ?_
    refine kw_aload_n X dX6_buy_30 rfl 0 rfl ?_
    refine kb_get X inX6 0 0 rfl rfl rfl 0 (by decide) rfl gw_203 rfl dX6_buy_31 ?_
    refine kb_getN X inX3 1 0 rfl rfl rfl 0 (by decide) rfl nw_22 rfl dX6_buy_34 ?_
    refine kw_iload_n X dX6_buy_37 rfl 1 rfl ?_
    refine kw_iload_n X dX6_buy_38 rfl 2 rfl ?_
    obtain ⟨b6, m7, m8, b9, b10, b11, hx11, hF⟩ := ob6_ex hF
    refine kb_aei X (r := .int b6) (As := [.int p1, .int p2]) (st := []) (bs' := [[(h0, .inr (6, [.ref h1, .ref (ah 0), .ref t0]))], [(h1, .inr (3, [.ref (a 0), .ref (b 0), .ref (d 0), .int k0, .int k1]))], bC cI a (m7, c.2.1, c.2.2.1, m8, b9, c.2.2.2.2.2.1, c.2.2.2.2.2.2.1, c.2.2.2.2.2.2.2.1, c.2.2.2.2.2.2.2.2.1, c.2.2.2.2.2.2.2.2.2.1, c.2.2.2.2.2.2.2.2.2.2.1, b10, b11, c.2.2.2.2.2.2.2.2.2.2.2.2.2.1, c.2.2.2.2.2.2.2.2.2.2.2.2.2.2.1, c.2.2.2.2.2.2.2.2.2.2.2.2.2.2.2), bC cI b s0, bC cI d s1, bH cI cR ah m3 m4 b5, wX4 cC t0 t1 ch len cur verb fi se]) E (c_X0_purchase l D cI cC cR (a 0) (a 1) (a 2) (a 3) (a 4) (a 5) (a 6) (a 7) (a 8) (a 9) (a 10) (a 11) (a 12) (a 13) (a 14) (a 15) (a 16) (a 17) (a 18) (a 19) c.1 c.2.1 c.2.2.1 c.2.2.2.1 c.2.2.2.2.1 c.2.2.2.2.2.1 c.2.2.2.2.2.2.1 c.2.2.2.2.2.2.2.1 c.2.2.2.2.2.2.2.2.1 c.2.2.2.2.2.2.2.2.2.1 c.2.2.2.2.2.2.2.2.2.2.1 c.2.2.2.2.2.2.2.2.2.2.2.1 c.2.2.2.2.2.2.2.2.2.2.2.2.1 c.2.2.2.2.2.2.2.2.2.2.2.2.2.1 c.2.2.2.2.2.2.2.2.2.2.2.2.2.2.1 c.2.2.2.2.2.2.2.2.2.2.2.2.2.2.2 p1 p2 Z b6 m7 m8 b9 b10 b11 hx11) vl_X6_44 yv_X0_purchase ⟨Nat.le_of_ble_eq_true rfl, Nat.le_of_ble_eq_true rfl⟩ ⟨rfl, rfl⟩ ⟨Nat.zero_le _, Nat.zero_le _⟩ 2 0 rfl rfl rfl rfl rfl (Nat.le_of_ble_eq_true rfl) dX6_buy_39 [(a 0), (a 1), (a 2), (a 3), (a 4), (a 5), (a 6), (a 7), (a 8), (a 9), (a 10), (a 11), (a 12), (a 13), (a 14), (a 15), (a 16), (a 17), (a 18), (a 19)] rfl rfl rfl ?_
    obtain ⟨rfl, rfl, rfl, rfl, rfl⟩ := si5 hF
    exact hret _ _ (vp_nar_int _) dX6_buy_42
  · replace hF := (if_neg q2).symm.trans hF
    refine kw_iload_n X dX6_buy_17 rfl 3 rfl ?_
    obtain ⟨rfl, rfl, rfl, rfl, rfl⟩ := si5 hF
    exact hret _ _ (vp_nar_int _) dX6_buy_18
-- X6_set
def f_X6_set (c : CV) (s0 : CV) (s1 : CV) (k0 : Int32) (k1 : Int32) (g : Nat → SV) (nx : Nat) (sz : Int32) (p1 : Int32) (p2 : Int32) : Int32 × CV × (Nat → SV) × Nat × Int32 :=
  (if (f_X0_settingError c.2.2.2.1 p1 p2) = 0 then (pl3 (f_X1_record g nx sz c s0 s1 k0 k1) (fun (m2 : Nat → SV) (m3 : Nat) (b4 : Int32) => (pl3 (f_X0_change c.2.2.2.2.2.1 c.2.2.2.2.2.2.2.2.2.2.2.2.2.2.2 p1 p2) (fun (b5 : Int32) (m6 : Nat → Int32) (b7 : Int32) => (b5, (c.1, c.2.1, c.2.2.1, c.2.2.2.1, c.2.2.2.2.1, m6, c.2.2.2.2.2.2.1, c.2.2.2.2.2.2.2.1, c.2.2.2.2.2.2.2.2.1, c.2.2.2.2.2.2.2.2.2.1, c.2.2.2.2.2.2.2.2.2.2.1, c.2.2.2.2.2.2.2.2.2.2.2.1, c.2.2.2.2.2.2.2.2.2.2.2.2.1, c.2.2.2.2.2.2.2.2.2.2.2.2.2.1, c.2.2.2.2.2.2.2.2.2.2.2.2.2.2.1, b7), m2, m3, b4))))) else ((f_X0_settingError c.2.2.2.1 p1 p2), c, g, nx, sz))
abbrev rm_X6_set : Room := { frames := 6, cells := 0, slots := 0, locals := 132 }
set_option maxHeartbeats 4000000 in
set_option maxRecDepth 100000 in
theorem c_X6_set (l : Launch) (D : va_G) (cI cC cR : ClassId) (h0 h1 t0 t1 : Nat) (a b d ah : Nat → Nat) (c : CV) (s0 : CV) (s1 : CV) (k0 : Int32) (k1 : Int32) (g : Nat → SV) (nx : Nat) (sz : Int32) (ch : Nat → Int32) (len : Int32) (cur : Int32) (verb : Int32) (fi : Int32) (se : Int32) (p1 : Int32) (p2 : Int32) (hb_k0 : k0 = 0 ∨ k0 = 1) (hb_k1 : k1 = 0 ∨ k1 = 1) (hnx : nx < 5) (hb_g : ∀ i, ((g i).2.2.2.1 = 0 ∨ (g i).2.2.2.1 = 1) ∧ ((g i).2.2.2.2 = 0 ∨ (g i).2.2.2.2 = 1)) (r : Int32) (c' : CV) (g' : Nat → SV) (nx' : Nat) (sz' : Int32) (hF : f_X6_set c s0 s1 k0 k1 g nx sz p1 p2 = (r, c', g', nx', sz')) : MEq l yX6_set cX6_set 4 (some .int) rm_X6_set D (TY cI cC cR) [.ref h0, .int p1, .int p2] (wj [[(h0, .inr (6, [.ref h1, .ref (ah 0), .ref t0]))], [(h1, .inr (3, [.ref (a 0), .ref (b 0), .ref (d 0), .int k0, .int k1]))], bC cI a c, bC cI b s0, bC cI d s1, bH cI cR ah g nx sz, wX4 cC t0 t1 ch len cur verb fi se]) (wj [[(h0, .inr (6, [.ref h1, .ref (ah 0), .ref t0]))], [(h1, .inr (3, [.ref (a 0), .ref (b 0), .ref (d 0), .int k0, .int k1]))], bC cI a c', bC cI b s0, bC cI d s1, bH cI cR ah g' nx' sz', wX4 cC t0 t1 ch len cur verb fi se]) (some (.int r)) := by
  refine me_e pn_X6 (Nat.le_of_ble_eq_true rfl) rfl (fun Γ X E hret => ?_)
  unfold f_X6_set at hF
  refine kw_aload_n X dX6_set_0 rfl 0 rfl ?_
  refine kb_get X inX6 0 0 rfl rfl rfl 0 (by decide) rfl gw_203 rfl dX6_set_1 ?_
  refine kb_getN X inX3 1 0 rfl rfl rfl 0 (by decide) rfl nw_22 rfl dX6_set_4 ?_
  refine kw_iload_n X dX6_set_7 rfl 1 rfl ?_
  refine kw_iload_n X dX6_set_8 rfl 2 rfl ?_
  refine kb_ap X (r := .int (f_X0_settingError c.2.2.2.1 p1 p2)) (As := [.int p1, .int p2]) (st := []) (c_X0_settingError l D cI cC cR (a 0) (a 1) (a 2) (a 3) (a 4) (a 5) (a 6) (a 7) (a 8) (a 9) (a 10) (a 11) (a 12) (a 13) (a 14) (a 15) (a 16) (a 17) (a 18) (a 19) c.1 c.2.1 c.2.2.1 c.2.2.2.1 c.2.2.2.2.1 c.2.2.2.2.2.1 c.2.2.2.2.2.2.1 c.2.2.2.2.2.2.2.1 c.2.2.2.2.2.2.2.2.1 c.2.2.2.2.2.2.2.2.2.1 c.2.2.2.2.2.2.2.2.2.2.1 c.2.2.2.2.2.2.2.2.2.2.2.1 c.2.2.2.2.2.2.2.2.2.2.2.2.1 c.2.2.2.2.2.2.2.2.2.2.2.2.2.1 c.2.2.2.2.2.2.2.2.2.2.2.2.2.2.1 c.2.2.2.2.2.2.2.2.2.2.2.2.2.2.2 p1 p2 (f_X0_settingError c.2.2.2.1 p1 p2) rfl) vl_X6_47 yv_X0_settingError ⟨Nat.le_of_ble_eq_true rfl, Nat.le_of_ble_eq_true rfl⟩ ⟨rfl, rfl⟩ ⟨Nat.zero_le _, Nat.zero_le _⟩ 2 0 rfl rfl rfl rfl rfl (Nat.le_of_ble_eq_true rfl) dX6_set_9 ?_
  refine kw_istore_n (lo' := [(0, .ref h0), (1, .int p1), (2, .int p2), (3, .int (f_X0_settingError c.2.2.2.1 p1 p2))]) X dX6_set_12 rfl (by decide) [1, 2, 3, 0] rfl ?_
  refine kw_iload_n X dX6_set_13 rfl 3 rfl ?_
  refine kw_if_eq X 19 dX6_set_14 (by decide) (fun q1 => ?_) (fun q1 => ?_)
  · replace hF := (if_pos q1).symm.trans hF
    refine kw_aload_n X dX6_set_19 rfl 0 rfl ?_
    refine kb_get X inX6 0 0 rfl rfl rfl 1 (by decide) rfl gw_204 rfl dX6_set_20 ?_
    refine kw_aload_n X dX6_set_23 rfl 0 rfl ?_
    refine kb_get X inX6 0 0 rfl rfl rfl 0 (by decide) rfl gw_203 rfl dX6_set_24 ?_
    obtain ⟨m2, m3, b4, hx4, hF⟩ := pl3_ex hF
    refine kb_mev X (As := [.ref h1]) (st := []) (bs' := [[(h0, .inr (6, [.ref h1, .ref (ah 0), .ref t0]))], [(h1, .inr (3, [.ref (a 0), .ref (b 0), .ref (d 0), .int k0, .int k1]))], bC cI a c, bC cI b s0, bC cI d s1, bH cI cR ah m2 m3 b4, wX4 cC t0 t1 ch len cur verb fi se]) E (c_X1_record l D cI cC cR ah h1 a b d g nx sz c s0 s1 k0 k1 hnx hb_k0 hb_k1 m2 m3 b4 hx4) vl_X6_40 yv_X1_record ⟨Nat.le_of_ble_eq_true rfl, Nat.le_of_ble_eq_true rfl⟩ ⟨rfl, rfl⟩ ⟨Nat.zero_le _, Nat.zero_le _⟩ 5 0 rfl rfl rfl [5, 1, 2, 3, 4] rfl rfl rfl rfl (Nat.le_of_ble_eq_true rfl) dX6_set_27 (wa_c bH_same (wa_c rfl (wa_c rfl (wa_c rfl (wa_c rfl rfl))))) rfl ?_
    refine kw_aload_n X dX6_set_30 rfl 0 rfl ?_
    refine kb_get X inX6 0 0 rfl rfl rfl 0 (by decide) rfl gw_203 rfl dX6_set_31 ?_
    refine kb_getN X inX3 1 0 rfl rfl rfl 0 (by decide) rfl nw_22 rfl dX6_set_34 ?_
    refine kw_iload_n X dX6_set_37 rfl 1 rfl ?_
    refine kw_iload_n X dX6_set_38 rfl 2 rfl ?_
    obtain ⟨b5, m6, b7, hx7, hF⟩ := pl3_ex hF
    refine kb_aei X (r := .int b5) (As := [.int p1, .int p2]) (st := []) (bs' := [[(h0, .inr (6, [.ref h1, .ref (ah 0), .ref t0]))], [(h1, .inr (3, [.ref (a 0), .ref (b 0), .ref (d 0), .int k0, .int k1]))], bC cI a (c.1, c.2.1, c.2.2.1, c.2.2.2.1, c.2.2.2.2.1, m6, c.2.2.2.2.2.2.1, c.2.2.2.2.2.2.2.1, c.2.2.2.2.2.2.2.2.1, c.2.2.2.2.2.2.2.2.2.1, c.2.2.2.2.2.2.2.2.2.2.1, c.2.2.2.2.2.2.2.2.2.2.2.1, c.2.2.2.2.2.2.2.2.2.2.2.2.1, c.2.2.2.2.2.2.2.2.2.2.2.2.2.1, c.2.2.2.2.2.2.2.2.2.2.2.2.2.2.1, b7), bC cI b s0, bC cI d s1, bH cI cR ah m2 m3 b4, wX4 cC t0 t1 ch len cur verb fi se]) E (c_X0_change l D cI cC cR (a 0) (a 1) (a 2) (a 3) (a 4) (a 5) (a 6) (a 7) (a 8) (a 9) (a 10) (a 11) (a 12) (a 13) (a 14) (a 15) (a 16) (a 17) (a 18) (a 19) c.1 c.2.1 c.2.2.1 c.2.2.2.1 c.2.2.2.2.1 c.2.2.2.2.2.1 c.2.2.2.2.2.2.1 c.2.2.2.2.2.2.2.1 c.2.2.2.2.2.2.2.2.1 c.2.2.2.2.2.2.2.2.2.1 c.2.2.2.2.2.2.2.2.2.2.1 c.2.2.2.2.2.2.2.2.2.2.2.1 c.2.2.2.2.2.2.2.2.2.2.2.2.1 c.2.2.2.2.2.2.2.2.2.2.2.2.2.1 c.2.2.2.2.2.2.2.2.2.2.2.2.2.2.1 c.2.2.2.2.2.2.2.2.2.2.2.2.2.2.2 p1 p2 b5 m6 b7 hx7) vl_X6_50 yv_X0_change ⟨Nat.le_of_ble_eq_true rfl, Nat.le_of_ble_eq_true rfl⟩ ⟨rfl, rfl⟩ ⟨Nat.zero_le _, Nat.zero_le _⟩ 2 0 rfl rfl rfl rfl rfl (Nat.le_of_ble_eq_true rfl) dX6_set_39 [(a 0), (a 1), (a 2), (a 3), (a 4), (a 5), (a 6), (a 7), (a 8), (a 9), (a 10), (a 11), (a 12), (a 13), (a 14), (a 15), (a 16), (a 17), (a 18), (a 19)] rfl rfl rfl ?_
    obtain ⟨rfl, rfl, rfl, rfl, rfl⟩ := ti5 hF
    exact hret _ _ (vp_nar_int _) dX6_set_42
  · replace hF := (if_neg q1).symm.trans hF
    refine kw_iload_n X dX6_set_17 rfl 3 rfl ?_
    obtain ⟨rfl, rfl, rfl, rfl, rfl⟩ := ti5 hF
    exact hret _ _ (vp_nar_int _) dX6_set_18
-- X6_borrow
def f_X6_borrow (Z : Nat) (c : CV) (s0 : CV) (s1 : CV) (k0 : Int32) (k1 : Int32) (g : Nat → SV) (nx : Nat) (sz : Int32) (p1 : Int32) (p2 : Int32) : Option (Int32 × CV × (Nat → SV) × Nat × Int32) :=
  (ob1 (f_X0_lendingError Z c.1 c.2.1 c.2.2.2.1 c.2.2.2.2.1 c.2.2.2.2.2.2.1 p1 p2) (fun (b1 : Int32) => (if b1 = 0 then (pl3 (f_X1_record g nx sz c s0 s1 k0 k1) (fun (m3 : Nat → SV) (m4 : Nat) (b5 : Int32) => (ob7 (f_X0_lend Z c.1 c.2.1 c.2.2.1 c.2.2.2.1 c.2.2.2.2.1 c.2.2.2.2.2.2.1 c.2.2.2.2.2.2.2.2.2.2.2.1 c.2.2.2.2.2.2.2.2.2.2.2.2.2.1 p1 p2) (fun (b6 : Int32) (m7 : Nat → Int32) (m8 : Nat → Int32) (m9 : Nat → Int32) (m10 : Nat → Int32) (b11 : Int32) (b12 : Int32) => (some (b6, (m7, c.2.1, m8, m9, c.2.2.2.2.1, c.2.2.2.2.2.1, m10, c.2.2.2.2.2.2.2.1, c.2.2.2.2.2.2.2.2.1, c.2.2.2.2.2.2.2.2.2.1, c.2.2.2.2.2.2.2.2.2.2.1, b11, c.2.2.2.2.2.2.2.2.2.2.2.2.1, b12, c.2.2.2.2.2.2.2.2.2.2.2.2.2.2.1, c.2.2.2.2.2.2.2.2.2.2.2.2.2.2.2), m3, m4, b5)))))) else (some (b1, c, g, nx, sz)))))
abbrev rm_X6_borrow : Room := { frames := 6, cells := 0, slots := 0, locals := 132 }
set_option maxHeartbeats 4000000 in
set_option maxRecDepth 100000 in
theorem c_X6_borrow (l : Launch) (D : va_G) (cI cC cR : ClassId) (h0 h1 t0 t1 : Nat) (a b d ah : Nat → Nat) (c : CV) (s0 : CV) (s1 : CV) (k0 : Int32) (k1 : Int32) (g : Nat → SV) (nx : Nat) (sz : Int32) (ch : Nat → Int32) (len : Int32) (cur : Int32) (verb : Int32) (fi : Int32) (se : Int32) (p1 : Int32) (p2 : Int32) (hb_k0 : k0 = 0 ∨ k0 = 1) (hb_k1 : k1 = 0 ∨ k1 = 1) (hnx : nx < 5) (hb_g : ∀ i, ((g i).2.2.2.1 = 0 ∨ (g i).2.2.2.1 = 1) ∧ ((g i).2.2.2.2 = 0 ∨ (g i).2.2.2.2 = 1)) (Z : Nat) (r : Int32) (c' : CV) (g' : Nat → SV) (nx' : Nat) (sz' : Int32) (hF : f_X6_borrow Z c s0 s1 k0 k1 g nx sz p1 p2 = some (r, c', g', nx', sz')) : MEq l yX6_borrow cX6_borrow 4 (some .int) rm_X6_borrow D (TY cI cC cR) [.ref h0, .int p1, .int p2] (wj [[(h0, .inr (6, [.ref h1, .ref (ah 0), .ref t0]))], [(h1, .inr (3, [.ref (a 0), .ref (b 0), .ref (d 0), .int k0, .int k1]))], bC cI a c, bC cI b s0, bC cI d s1, bH cI cR ah g nx sz, wX4 cC t0 t1 ch len cur verb fi se]) (wj [[(h0, .inr (6, [.ref h1, .ref (ah 0), .ref t0]))], [(h1, .inr (3, [.ref (a 0), .ref (b 0), .ref (d 0), .int k0, .int k1]))], bC cI a c', bC cI b s0, bC cI d s1, bH cI cR ah g' nx' sz', wX4 cC t0 t1 ch len cur verb fi se]) (some (.int r)) := by
  refine me_e pn_X6 (Nat.le_of_ble_eq_true rfl) rfl (fun Γ X E hret => ?_)
  unfold f_X6_borrow at hF
  refine kw_aload_n X dX6_borrow_0 rfl 0 rfl ?_
  refine kb_get X inX6 0 0 rfl rfl rfl 0 (by decide) rfl gw_203 rfl dX6_borrow_1 ?_
  refine kb_getN X inX3 1 0 rfl rfl rfl 0 (by decide) rfl nw_22 rfl dX6_borrow_4 ?_
  refine kw_iload_n X dX6_borrow_7 rfl 1 rfl ?_
  refine kw_iload_n X dX6_borrow_8 rfl 2 rfl ?_
  obtain ⟨b1, hx1, hF⟩ := ob1_ex hF
  refine kb_ap X (r := .int b1) (As := [.int p1, .int p2]) (st := []) (c_X0_lendingError l D cI cC cR (a 0) (a 1) (a 2) (a 3) (a 4) (a 5) (a 6) (a 7) (a 8) (a 9) (a 10) (a 11) (a 12) (a 13) (a 14) (a 15) (a 16) (a 17) (a 18) (a 19) c.1 c.2.1 c.2.2.1 c.2.2.2.1 c.2.2.2.2.1 c.2.2.2.2.2.1 c.2.2.2.2.2.2.1 c.2.2.2.2.2.2.2.1 c.2.2.2.2.2.2.2.2.1 c.2.2.2.2.2.2.2.2.2.1 c.2.2.2.2.2.2.2.2.2.2.1 c.2.2.2.2.2.2.2.2.2.2.2.1 c.2.2.2.2.2.2.2.2.2.2.2.2.1 c.2.2.2.2.2.2.2.2.2.2.2.2.2.1 c.2.2.2.2.2.2.2.2.2.2.2.2.2.2.1 c.2.2.2.2.2.2.2.2.2.2.2.2.2.2.2 p1 p2 Z b1 hx1) vl_X6_53 yv_X0_lendingError ⟨Nat.le_of_ble_eq_true rfl, Nat.le_of_ble_eq_true rfl⟩ ⟨rfl, rfl⟩ ⟨Nat.zero_le _, Nat.zero_le _⟩ 2 0 rfl rfl rfl rfl rfl (Nat.le_of_ble_eq_true rfl) dX6_borrow_9 ?_
  refine kw_istore_n (lo' := [(0, .ref h0), (1, .int p1), (2, .int p2), (3, .int b1)]) X dX6_borrow_12 rfl (by decide) [1, 2, 3, 0] rfl ?_
  refine kw_iload_n X dX6_borrow_13 rfl 3 rfl ?_
  refine kw_if_eq X 19 dX6_borrow_14 (by decide) (fun q2 => ?_) (fun q2 => ?_)
  · replace hF := (if_pos q2).symm.trans hF
    refine kw_aload_n X dX6_borrow_19 rfl 0 rfl ?_
    refine kb_get X inX6 0 0 rfl rfl rfl 1 (by decide) rfl gw_204 rfl dX6_borrow_20 ?_
    refine kw_aload_n X dX6_borrow_23 rfl 0 rfl ?_
    refine kb_get X inX6 0 0 rfl rfl rfl 0 (by decide) rfl gw_203 rfl dX6_borrow_24 ?_
    obtain ⟨m3, m4, b5, hx5, hF⟩ := pl3_ex hF
    refine kb_mev X (As := [.ref h1]) (st := []) (bs' := [[(h0, .inr (6, [.ref h1, .ref (ah 0), .ref t0]))], [(h1, .inr (3, [.ref (a 0), .ref (b 0), .ref (d 0), .int k0, .int k1]))], bC cI a c, bC cI b s0, bC cI d s1, bH cI cR ah m3 m4 b5, wX4 cC t0 t1 ch len cur verb fi se]) E (c_X1_record l D cI cC cR ah h1 a b d g nx sz c s0 s1 k0 k1 hnx hb_k0 hb_k1 m3 m4 b5 hx5) vl_X6_40 yv_X1_record ⟨Nat.le_of_ble_eq_true rfl, Nat.le_of_ble_eq_true rfl⟩ ⟨rfl, rfl⟩ ⟨Nat.zero_le _, Nat.zero_le _⟩ 5 0 rfl rfl rfl [5, 1, 2, 3, 4] rfl rfl rfl rfl (Nat.le_of_ble_eq_true rfl) dX6_borrow_27 (wa_c bH_same (wa_c rfl (wa_c rfl (wa_c rfl (wa_c rfl rfl))))) rfl ?_
    refine kw_aload_n X dX6_borrow_30 rfl 0 rfl ?_
    refine kb_get X inX6 0 0 rfl rfl rfl 0 (by decide) rfl gw_203 rfl dX6_borrow_31 ?_
    refine kb_getN X inX3 1 0 rfl rfl rfl 0 (by decide) rfl nw_22 rfl dX6_borrow_34 ?_
    refine kw_iload_n X dX6_borrow_37 rfl 1 rfl ?_
    refine kw_iload_n X dX6_borrow_38 rfl 2 rfl ?_
    obtain ⟨b6, m7, m8, m9, m10, b11, b12, hx12, hF⟩ := ob7_ex hF
    refine kb_aei X (r := .int b6) (As := [.int p1, .int p2]) (st := []) (bs' := [[(h0, .inr (6, [.ref h1, .ref (ah 0), .ref t0]))], [(h1, .inr (3, [.ref (a 0), .ref (b 0), .ref (d 0), .int k0, .int k1]))], bC cI a (m7, c.2.1, m8, m9, c.2.2.2.2.1, c.2.2.2.2.2.1, m10, c.2.2.2.2.2.2.2.1, c.2.2.2.2.2.2.2.2.1, c.2.2.2.2.2.2.2.2.2.1, c.2.2.2.2.2.2.2.2.2.2.1, b11, c.2.2.2.2.2.2.2.2.2.2.2.2.1, b12, c.2.2.2.2.2.2.2.2.2.2.2.2.2.2.1, c.2.2.2.2.2.2.2.2.2.2.2.2.2.2.2), bC cI b s0, bC cI d s1, bH cI cR ah m3 m4 b5, wX4 cC t0 t1 ch len cur verb fi se]) E (c_X0_lend l D cI cC cR (a 0) (a 1) (a 2) (a 3) (a 4) (a 5) (a 6) (a 7) (a 8) (a 9) (a 10) (a 11) (a 12) (a 13) (a 14) (a 15) (a 16) (a 17) (a 18) (a 19) c.1 c.2.1 c.2.2.1 c.2.2.2.1 c.2.2.2.2.1 c.2.2.2.2.2.1 c.2.2.2.2.2.2.1 c.2.2.2.2.2.2.2.1 c.2.2.2.2.2.2.2.2.1 c.2.2.2.2.2.2.2.2.2.1 c.2.2.2.2.2.2.2.2.2.2.1 c.2.2.2.2.2.2.2.2.2.2.2.1 c.2.2.2.2.2.2.2.2.2.2.2.2.1 c.2.2.2.2.2.2.2.2.2.2.2.2.2.1 c.2.2.2.2.2.2.2.2.2.2.2.2.2.2.1 c.2.2.2.2.2.2.2.2.2.2.2.2.2.2.2 p1 p2 Z b6 m7 m8 m9 m10 b11 b12 hx12) vl_X6_56 yv_X0_lend ⟨Nat.le_of_ble_eq_true rfl, Nat.le_of_ble_eq_true rfl⟩ ⟨rfl, rfl⟩ ⟨Nat.zero_le _, Nat.zero_le _⟩ 2 0 rfl rfl rfl rfl rfl (Nat.le_of_ble_eq_true rfl) dX6_borrow_39 [(a 0), (a 1), (a 2), (a 3), (a 4), (a 5), (a 6), (a 7), (a 8), (a 9), (a 10), (a 11), (a 12), (a 13), (a 14), (a 15), (a 16), (a 17), (a 18), (a 19)] rfl rfl rfl ?_
    obtain ⟨rfl, rfl, rfl, rfl, rfl⟩ := si5 hF
    exact hret _ _ (vp_nar_int _) dX6_borrow_42
  · replace hF := (if_neg q2).symm.trans hF
    refine kw_iload_n X dX6_borrow_17 rfl 3 rfl ?_
    obtain ⟨rfl, rfl, rfl, rfl, rfl⟩ := si5 hF
    exact hret _ _ (vp_nar_int _) dX6_borrow_18
-- X6_bringBack
def f_X6_bringBack (Z : Nat) (c : CV) (s0 : CV) (s1 : CV) (k0 : Int32) (k1 : Int32) (g : Nat → SV) (nx : Nat) (sz : Int32) (p1 : Int32) (p2 : Int32) : Option (Int32 × CV × (Nat → SV) × Nat × Int32) :=
  (if (f_X0_returningError c.2.2.2.1 c.2.2.2.2.2.1 p1 p2) = 0 then (pl3 (f_X1_record g nx sz c s0 s1 k0 k1) (fun (m2 : Nat → SV) (m3 : Nat) (b4 : Int32) => (ob8 (f_X0_takeBack Z c.1 c.2.1 c.2.2.2.1 c.2.2.2.2.1 c.2.2.2.2.2.2.1 c.2.2.2.2.2.2.2.1 c.2.2.2.2.2.2.2.2.1 c.2.2.2.2.2.2.2.2.2.1 c.2.2.2.2.2.2.2.2.2.2.2.1 c.2.2.2.2.2.2.2.2.2.2.2.2.2.2.2 p1 p2) (fun (b5 : Int32) (m6 : Nat → Int32) (m7 : Nat → Int32) (m8 : Nat → Int32) (m9 : Nat → Int32) (m10 : Nat → Int32) (m11 : Nat → Int32) (b12 : Int32) => (some (b5, (m6, c.2.1, c.2.2.1, m7, c.2.2.2.2.1, c.2.2.2.2.2.1, m8, m9, m10, m11, c.2.2.2.2.2.2.2.2.2.2.1, b12, c.2.2.2.2.2.2.2.2.2.2.2.2.1, c.2.2.2.2.2.2.2.2.2.2.2.2.2.1, c.2.2.2.2.2.2.2.2.2.2.2.2.2.2.1, c.2.2.2.2.2.2.2.2.2.2.2.2.2.2.2), m2, m3, b4)))))) else (some ((f_X0_returningError c.2.2.2.1 c.2.2.2.2.2.1 p1 p2), c, g, nx, sz)))
abbrev rm_X6_bringBack : Room := { frames := 6, cells := 0, slots := 0, locals := 132 }
set_option maxHeartbeats 4000000 in
set_option maxRecDepth 100000 in
theorem c_X6_bringBack (l : Launch) (D : va_G) (cI cC cR : ClassId) (h0 h1 t0 t1 : Nat) (a b d ah : Nat → Nat) (c : CV) (s0 : CV) (s1 : CV) (k0 : Int32) (k1 : Int32) (g : Nat → SV) (nx : Nat) (sz : Int32) (ch : Nat → Int32) (len : Int32) (cur : Int32) (verb : Int32) (fi : Int32) (se : Int32) (p1 : Int32) (p2 : Int32) (hb_k0 : k0 = 0 ∨ k0 = 1) (hb_k1 : k1 = 0 ∨ k1 = 1) (hnx : nx < 5) (hb_g : ∀ i, ((g i).2.2.2.1 = 0 ∨ (g i).2.2.2.1 = 1) ∧ ((g i).2.2.2.2 = 0 ∨ (g i).2.2.2.2 = 1)) (Z : Nat) (r : Int32) (c' : CV) (g' : Nat → SV) (nx' : Nat) (sz' : Int32) (hF : f_X6_bringBack Z c s0 s1 k0 k1 g nx sz p1 p2 = some (r, c', g', nx', sz')) : MEq l yX6_bringBack cX6_bringBack 4 (some .int) rm_X6_bringBack D (TY cI cC cR) [.ref h0, .int p1, .int p2] (wj [[(h0, .inr (6, [.ref h1, .ref (ah 0), .ref t0]))], [(h1, .inr (3, [.ref (a 0), .ref (b 0), .ref (d 0), .int k0, .int k1]))], bC cI a c, bC cI b s0, bC cI d s1, bH cI cR ah g nx sz, wX4 cC t0 t1 ch len cur verb fi se]) (wj [[(h0, .inr (6, [.ref h1, .ref (ah 0), .ref t0]))], [(h1, .inr (3, [.ref (a 0), .ref (b 0), .ref (d 0), .int k0, .int k1]))], bC cI a c', bC cI b s0, bC cI d s1, bH cI cR ah g' nx' sz', wX4 cC t0 t1 ch len cur verb fi se]) (some (.int r)) := by
  refine me_e pn_X6 (Nat.le_of_ble_eq_true rfl) rfl (fun Γ X E hret => ?_)
  unfold f_X6_bringBack at hF
  refine kw_aload_n X dX6_bringBack_0 rfl 0 rfl ?_
  refine kb_get X inX6 0 0 rfl rfl rfl 0 (by decide) rfl gw_203 rfl dX6_bringBack_1 ?_
  refine kb_getN X inX3 1 0 rfl rfl rfl 0 (by decide) rfl nw_22 rfl dX6_bringBack_4 ?_
  refine kw_iload_n X dX6_bringBack_7 rfl 1 rfl ?_
  refine kw_iload_n X dX6_bringBack_8 rfl 2 rfl ?_
  refine kb_ap X (r := .int (f_X0_returningError c.2.2.2.1 c.2.2.2.2.2.1 p1 p2)) (As := [.int p1, .int p2]) (st := []) (c_X0_returningError l D cI cC cR (a 0) (a 1) (a 2) (a 3) (a 4) (a 5) (a 6) (a 7) (a 8) (a 9) (a 10) (a 11) (a 12) (a 13) (a 14) (a 15) (a 16) (a 17) (a 18) (a 19) c.1 c.2.1 c.2.2.1 c.2.2.2.1 c.2.2.2.2.1 c.2.2.2.2.2.1 c.2.2.2.2.2.2.1 c.2.2.2.2.2.2.2.1 c.2.2.2.2.2.2.2.2.1 c.2.2.2.2.2.2.2.2.2.1 c.2.2.2.2.2.2.2.2.2.2.1 c.2.2.2.2.2.2.2.2.2.2.2.1 c.2.2.2.2.2.2.2.2.2.2.2.2.1 c.2.2.2.2.2.2.2.2.2.2.2.2.2.1 c.2.2.2.2.2.2.2.2.2.2.2.2.2.2.1 c.2.2.2.2.2.2.2.2.2.2.2.2.2.2.2 p1 p2 (f_X0_returningError c.2.2.2.1 c.2.2.2.2.2.1 p1 p2) rfl) vl_X6_59 yv_X0_returningError ⟨Nat.le_of_ble_eq_true rfl, Nat.le_of_ble_eq_true rfl⟩ ⟨rfl, rfl⟩ ⟨Nat.zero_le _, Nat.zero_le _⟩ 2 0 rfl rfl rfl rfl rfl (Nat.le_of_ble_eq_true rfl) dX6_bringBack_9 ?_
  refine kw_istore_n (lo' := [(0, .ref h0), (1, .int p1), (2, .int p2), (3, .int (f_X0_returningError c.2.2.2.1 c.2.2.2.2.2.1 p1 p2))]) X dX6_bringBack_12 rfl (by decide) [1, 2, 3, 0] rfl ?_
  refine kw_iload_n X dX6_bringBack_13 rfl 3 rfl ?_
  refine kw_if_eq X 19 dX6_bringBack_14 (by decide) (fun q1 => ?_) (fun q1 => ?_)
  · replace hF := (if_pos q1).symm.trans hF
    refine kw_aload_n X dX6_bringBack_19 rfl 0 rfl ?_
    refine kb_get X inX6 0 0 rfl rfl rfl 1 (by decide) rfl gw_204 rfl dX6_bringBack_20 ?_
    refine kw_aload_n X dX6_bringBack_23 rfl 0 rfl ?_
    refine kb_get X inX6 0 0 rfl rfl rfl 0 (by decide) rfl gw_203 rfl dX6_bringBack_24 ?_
    obtain ⟨m2, m3, b4, hx4, hF⟩ := pl3_ex hF
    refine kb_mev X (As := [.ref h1]) (st := []) (bs' := [[(h0, .inr (6, [.ref h1, .ref (ah 0), .ref t0]))], [(h1, .inr (3, [.ref (a 0), .ref (b 0), .ref (d 0), .int k0, .int k1]))], bC cI a c, bC cI b s0, bC cI d s1, bH cI cR ah m2 m3 b4, wX4 cC t0 t1 ch len cur verb fi se]) E (c_X1_record l D cI cC cR ah h1 a b d g nx sz c s0 s1 k0 k1 hnx hb_k0 hb_k1 m2 m3 b4 hx4) vl_X6_40 yv_X1_record ⟨Nat.le_of_ble_eq_true rfl, Nat.le_of_ble_eq_true rfl⟩ ⟨rfl, rfl⟩ ⟨Nat.zero_le _, Nat.zero_le _⟩ 5 0 rfl rfl rfl [5, 1, 2, 3, 4] rfl rfl rfl rfl (Nat.le_of_ble_eq_true rfl) dX6_bringBack_27 (wa_c bH_same (wa_c rfl (wa_c rfl (wa_c rfl (wa_c rfl rfl))))) rfl ?_
    refine kw_aload_n X dX6_bringBack_30 rfl 0 rfl ?_
    refine kb_get X inX6 0 0 rfl rfl rfl 0 (by decide) rfl gw_203 rfl dX6_bringBack_31 ?_
    refine kb_getN X inX3 1 0 rfl rfl rfl 0 (by decide) rfl nw_22 rfl dX6_bringBack_34 ?_
    refine kw_iload_n X dX6_bringBack_37 rfl 1 rfl ?_
    refine kw_iload_n X dX6_bringBack_38 rfl 2 rfl ?_
    obtain ⟨b5, m6, m7, m8, m9, m10, m11, b12, hx12, hF⟩ := ob8_ex hF
    refine kb_aei X (r := .int b5) (As := [.int p1, .int p2]) (st := []) (bs' := [[(h0, .inr (6, [.ref h1, .ref (ah 0), .ref t0]))], [(h1, .inr (3, [.ref (a 0), .ref (b 0), .ref (d 0), .int k0, .int k1]))], bC cI a (m6, c.2.1, c.2.2.1, m7, c.2.2.2.2.1, c.2.2.2.2.2.1, m8, m9, m10, m11, c.2.2.2.2.2.2.2.2.2.2.1, b12, c.2.2.2.2.2.2.2.2.2.2.2.2.1, c.2.2.2.2.2.2.2.2.2.2.2.2.2.1, c.2.2.2.2.2.2.2.2.2.2.2.2.2.2.1, c.2.2.2.2.2.2.2.2.2.2.2.2.2.2.2), bC cI b s0, bC cI d s1, bH cI cR ah m2 m3 b4, wX4 cC t0 t1 ch len cur verb fi se]) E (c_X0_takeBack l D cI cC cR (a 0) (a 1) (a 2) (a 3) (a 4) (a 5) (a 6) (a 7) (a 8) (a 9) (a 10) (a 11) (a 12) (a 13) (a 14) (a 15) (a 16) (a 17) (a 18) (a 19) c.1 c.2.1 c.2.2.1 c.2.2.2.1 c.2.2.2.2.1 c.2.2.2.2.2.1 c.2.2.2.2.2.2.1 c.2.2.2.2.2.2.2.1 c.2.2.2.2.2.2.2.2.1 c.2.2.2.2.2.2.2.2.2.1 c.2.2.2.2.2.2.2.2.2.2.1 c.2.2.2.2.2.2.2.2.2.2.2.1 c.2.2.2.2.2.2.2.2.2.2.2.2.1 c.2.2.2.2.2.2.2.2.2.2.2.2.2.1 c.2.2.2.2.2.2.2.2.2.2.2.2.2.2.1 c.2.2.2.2.2.2.2.2.2.2.2.2.2.2.2 p1 p2 Z b5 m6 m7 m8 m9 m10 m11 b12 hx12) vl_X6_62 yv_X0_takeBack ⟨Nat.le_of_ble_eq_true rfl, Nat.le_of_ble_eq_true rfl⟩ ⟨rfl, rfl⟩ ⟨Nat.zero_le _, Nat.zero_le _⟩ 2 0 rfl rfl rfl rfl rfl (Nat.le_of_ble_eq_true rfl) dX6_bringBack_39 [(a 0), (a 1), (a 2), (a 3), (a 4), (a 5), (a 6), (a 7), (a 8), (a 9), (a 10), (a 11), (a 12), (a 13), (a 14), (a 15), (a 16), (a 17), (a 18), (a 19)] rfl rfl rfl ?_
    obtain ⟨rfl, rfl, rfl, rfl, rfl⟩ := si5 hF
    exact hret _ _ (vp_nar_int _) dX6_bringBack_42
  · replace hF := (if_neg q1).symm.trans hF
    refine kw_iload_n X dX6_bringBack_17 rfl 3 rfl ?_
    obtain ⟨rfl, rfl, rfl, rfl, rfl⟩ := si5 hF
    exact hret _ _ (vp_nar_int _) dX6_bringBack_18
-- X6_hour
def f_X6_hour (Z : Nat) (c : CV) (s0 : CV) (s1 : CV) (k0 : Int32) (k1 : Int32) (g : Nat → SV) (nx : Nat) (sz : Int32) (p1 : Int32) (p2 : Int32) : Option (Int32 × CV × (Nat → SV) × Nat × Int32) :=
  (if (f_X0_passingError c.2.2.2.2.2.2.2.2.2.2.1 p1 p2) = 0 then (pl3 (f_X1_record g nx sz c s0 s1 k0 k1) (fun (m2 : Nat → SV) (m3 : Nat) (b4 : Int32) => (ob11 (f_X0_passHour Z c.1 c.2.1 c.2.2.1 c.2.2.2.1 c.2.2.2.2.1 c.2.2.2.2.2.2.1 c.2.2.2.2.2.2.2.1 c.2.2.2.2.2.2.2.2.1 c.2.2.2.2.2.2.2.2.2.2.1 c.2.2.2.2.2.2.2.2.2.2.2.1 c.2.2.2.2.2.2.2.2.2.2.2.2.2.1 c.2.2.2.2.2.2.2.2.2.2.2.2.2.2.1 p1 p2) (fun (b5 : Int32) (m6 : Nat → Int32) (m7 : Nat → Int32) (m8 : Nat → Int32) (m9 : Nat → Int32) (m10 : Nat → Int32) (m11 : Nat → Int32) (b12 : Int32) (b13 : Int32) (b14 : Int32) (b15 : Int32) => (some (b5, (m6, m7, m8, m9, c.2.2.2.2.1, c.2.2.2.2.2.1, m10, m11, c.2.2.2.2.2.2.2.2.1, c.2.2.2.2.2.2.2.2.2.1, b12, b13, c.2.2.2.2.2.2.2.2.2.2.2.2.1, b14, b15, c.2.2.2.2.2.2.2.2.2.2.2.2.2.2.2), m2, m3, b4)))))) else (some ((f_X0_passingError c.2.2.2.2.2.2.2.2.2.2.1 p1 p2), c, g, nx, sz)))
abbrev rm_X6_hour : Room := { frames := 6, cells := 0, slots := 0, locals := 132 }
set_option maxHeartbeats 4000000 in
set_option maxRecDepth 100000 in
theorem c_X6_hour (l : Launch) (D : va_G) (cI cC cR : ClassId) (h0 h1 t0 t1 : Nat) (a b d ah : Nat → Nat) (c : CV) (s0 : CV) (s1 : CV) (k0 : Int32) (k1 : Int32) (g : Nat → SV) (nx : Nat) (sz : Int32) (ch : Nat → Int32) (len : Int32) (cur : Int32) (verb : Int32) (fi : Int32) (se : Int32) (p1 : Int32) (p2 : Int32) (hb_k0 : k0 = 0 ∨ k0 = 1) (hb_k1 : k1 = 0 ∨ k1 = 1) (hnx : nx < 5) (hb_g : ∀ i, ((g i).2.2.2.1 = 0 ∨ (g i).2.2.2.1 = 1) ∧ ((g i).2.2.2.2 = 0 ∨ (g i).2.2.2.2 = 1)) (Z : Nat) (r : Int32) (c' : CV) (g' : Nat → SV) (nx' : Nat) (sz' : Int32) (hF : f_X6_hour Z c s0 s1 k0 k1 g nx sz p1 p2 = some (r, c', g', nx', sz')) : MEq l yX6_hour cX6_hour 4 (some .int) rm_X6_hour D (TY cI cC cR) [.ref h0, .int p1, .int p2] (wj [[(h0, .inr (6, [.ref h1, .ref (ah 0), .ref t0]))], [(h1, .inr (3, [.ref (a 0), .ref (b 0), .ref (d 0), .int k0, .int k1]))], bC cI a c, bC cI b s0, bC cI d s1, bH cI cR ah g nx sz, wX4 cC t0 t1 ch len cur verb fi se]) (wj [[(h0, .inr (6, [.ref h1, .ref (ah 0), .ref t0]))], [(h1, .inr (3, [.ref (a 0), .ref (b 0), .ref (d 0), .int k0, .int k1]))], bC cI a c', bC cI b s0, bC cI d s1, bH cI cR ah g' nx' sz', wX4 cC t0 t1 ch len cur verb fi se]) (some (.int r)) := by
  refine me_e pn_X6 (Nat.le_of_ble_eq_true rfl) rfl (fun Γ X E hret => ?_)
  unfold f_X6_hour at hF
  refine kw_aload_n X dX6_hour_0 rfl 0 rfl ?_
  refine kb_get X inX6 0 0 rfl rfl rfl 0 (by decide) rfl gw_203 rfl dX6_hour_1 ?_
  refine kb_getN X inX3 1 0 rfl rfl rfl 0 (by decide) rfl nw_22 rfl dX6_hour_4 ?_
  refine kw_iload_n X dX6_hour_7 rfl 1 rfl ?_
  refine kw_iload_n X dX6_hour_8 rfl 2 rfl ?_
  refine kb_ap X (r := .int (f_X0_passingError c.2.2.2.2.2.2.2.2.2.2.1 p1 p2)) (As := [.int p1, .int p2]) (st := []) (c_X0_passingError l D cI cC cR (a 0) (a 1) (a 2) (a 3) (a 4) (a 5) (a 6) (a 7) (a 8) (a 9) (a 10) (a 11) (a 12) (a 13) (a 14) (a 15) (a 16) (a 17) (a 18) (a 19) c.1 c.2.1 c.2.2.1 c.2.2.2.1 c.2.2.2.2.1 c.2.2.2.2.2.1 c.2.2.2.2.2.2.1 c.2.2.2.2.2.2.2.1 c.2.2.2.2.2.2.2.2.1 c.2.2.2.2.2.2.2.2.2.1 c.2.2.2.2.2.2.2.2.2.2.1 c.2.2.2.2.2.2.2.2.2.2.2.1 c.2.2.2.2.2.2.2.2.2.2.2.2.1 c.2.2.2.2.2.2.2.2.2.2.2.2.2.1 c.2.2.2.2.2.2.2.2.2.2.2.2.2.2.1 c.2.2.2.2.2.2.2.2.2.2.2.2.2.2.2 p1 p2 (f_X0_passingError c.2.2.2.2.2.2.2.2.2.2.1 p1 p2) rfl) vl_X6_65 yv_X0_passingError ⟨Nat.le_of_ble_eq_true rfl, Nat.le_of_ble_eq_true rfl⟩ ⟨rfl, rfl⟩ ⟨Nat.zero_le _, Nat.zero_le _⟩ 2 0 rfl rfl rfl rfl rfl (Nat.le_of_ble_eq_true rfl) dX6_hour_9 ?_
  refine kw_istore_n (lo' := [(0, .ref h0), (1, .int p1), (2, .int p2), (3, .int (f_X0_passingError c.2.2.2.2.2.2.2.2.2.2.1 p1 p2))]) X dX6_hour_12 rfl (by decide) [1, 2, 3, 0] rfl ?_
  refine kw_iload_n X dX6_hour_13 rfl 3 rfl ?_
  refine kw_if_eq X 19 dX6_hour_14 (by decide) (fun q1 => ?_) (fun q1 => ?_)
  · replace hF := (if_pos q1).symm.trans hF
    refine kw_aload_n X dX6_hour_19 rfl 0 rfl ?_
    refine kb_get X inX6 0 0 rfl rfl rfl 1 (by decide) rfl gw_204 rfl dX6_hour_20 ?_
    refine kw_aload_n X dX6_hour_23 rfl 0 rfl ?_
    refine kb_get X inX6 0 0 rfl rfl rfl 0 (by decide) rfl gw_203 rfl dX6_hour_24 ?_
    obtain ⟨m2, m3, b4, hx4, hF⟩ := pl3_ex hF
    refine kb_mev X (As := [.ref h1]) (st := []) (bs' := [[(h0, .inr (6, [.ref h1, .ref (ah 0), .ref t0]))], [(h1, .inr (3, [.ref (a 0), .ref (b 0), .ref (d 0), .int k0, .int k1]))], bC cI a c, bC cI b s0, bC cI d s1, bH cI cR ah m2 m3 b4, wX4 cC t0 t1 ch len cur verb fi se]) E (c_X1_record l D cI cC cR ah h1 a b d g nx sz c s0 s1 k0 k1 hnx hb_k0 hb_k1 m2 m3 b4 hx4) vl_X6_40 yv_X1_record ⟨Nat.le_of_ble_eq_true rfl, Nat.le_of_ble_eq_true rfl⟩ ⟨rfl, rfl⟩ ⟨Nat.zero_le _, Nat.zero_le _⟩ 5 0 rfl rfl rfl [5, 1, 2, 3, 4] rfl rfl rfl rfl (Nat.le_of_ble_eq_true rfl) dX6_hour_27 (wa_c bH_same (wa_c rfl (wa_c rfl (wa_c rfl (wa_c rfl rfl))))) rfl ?_
    refine kw_aload_n X dX6_hour_30 rfl 0 rfl ?_
    refine kb_get X inX6 0 0 rfl rfl rfl 0 (by decide) rfl gw_203 rfl dX6_hour_31 ?_
    refine kb_getN X inX3 1 0 rfl rfl rfl 0 (by decide) rfl nw_22 rfl dX6_hour_34 ?_
    refine kw_iload_n X dX6_hour_37 rfl 1 rfl ?_
    refine kw_iload_n X dX6_hour_38 rfl 2 rfl ?_
    obtain ⟨b5, m6, m7, m8, m9, m10, m11, b12, b13, b14, b15, hx15, hF⟩ := ob11_ex hF
    refine kb_aei X (r := .int b5) (As := [.int p1, .int p2]) (st := []) (bs' := [[(h0, .inr (6, [.ref h1, .ref (ah 0), .ref t0]))], [(h1, .inr (3, [.ref (a 0), .ref (b 0), .ref (d 0), .int k0, .int k1]))], bC cI a (m6, m7, m8, m9, c.2.2.2.2.1, c.2.2.2.2.2.1, m10, m11, c.2.2.2.2.2.2.2.2.1, c.2.2.2.2.2.2.2.2.2.1, b12, b13, c.2.2.2.2.2.2.2.2.2.2.2.2.1, b14, b15, c.2.2.2.2.2.2.2.2.2.2.2.2.2.2.2), bC cI b s0, bC cI d s1, bH cI cR ah m2 m3 b4, wX4 cC t0 t1 ch len cur verb fi se]) E (c_X0_passHour l D cI cC cR (a 0) (a 1) (a 2) (a 3) (a 4) (a 5) (a 6) (a 7) (a 8) (a 9) (a 10) (a 11) (a 12) (a 13) (a 14) (a 15) (a 16) (a 17) (a 18) (a 19) c.1 c.2.1 c.2.2.1 c.2.2.2.1 c.2.2.2.2.1 c.2.2.2.2.2.1 c.2.2.2.2.2.2.1 c.2.2.2.2.2.2.2.1 c.2.2.2.2.2.2.2.2.1 c.2.2.2.2.2.2.2.2.2.1 c.2.2.2.2.2.2.2.2.2.2.1 c.2.2.2.2.2.2.2.2.2.2.2.1 c.2.2.2.2.2.2.2.2.2.2.2.2.1 c.2.2.2.2.2.2.2.2.2.2.2.2.2.1 c.2.2.2.2.2.2.2.2.2.2.2.2.2.2.1 c.2.2.2.2.2.2.2.2.2.2.2.2.2.2.2 p1 p2 Z b5 m6 m7 m8 m9 m10 m11 b12 b13 b14 b15 hx15) vl_X6_68 yv_X0_passHour ⟨Nat.le_of_ble_eq_true rfl, Nat.le_of_ble_eq_true rfl⟩ ⟨rfl, rfl⟩ ⟨Nat.zero_le _, Nat.zero_le _⟩ 2 0 rfl rfl rfl rfl rfl (Nat.le_of_ble_eq_true rfl) dX6_hour_39 [(a 0), (a 1), (a 2), (a 3), (a 4), (a 5), (a 6), (a 7), (a 8), (a 9), (a 10), (a 11), (a 12), (a 13), (a 14), (a 15), (a 16), (a 17), (a 18), (a 19)] rfl rfl rfl ?_
    obtain ⟨rfl, rfl, rfl, rfl, rfl⟩ := si5 hF
    exact hret _ _ (vp_nar_int _) dX6_hour_42
  · replace hF := (if_neg q1).symm.trans hF
    refine kw_iload_n X dX6_hour_17 rfl 3 rfl ?_
    obtain ⟨rfl, rfl, rfl, rfl, rfl⟩ := si5 hF
    exact hret _ _ (vp_nar_int _) dX6_hour_18
-- X6_load
def f_X6_load (Z : Nat) (c : CV) (s0 : CV) (s1 : CV) (k0 : Int32) (k1 : Int32) (g : Nat → SV) (nx : Nat) (sz : Int32) (p1 : Int32) (p2 : Int32) (p3 : Int32) : Option (Int32 × CV × (Nat → SV) × Nat × Int32) :=
  (if (f_X0_loadingError c.2.2.2.1 p1 p2 p3) = 0 then (pl3 (f_X1_record g nx sz c s0 s1 k0 k1) (fun (m2 : Nat → SV) (m3 : Nat) (b4 : Int32) => (ob3 (f_X0_fillVan Z c.1 c.2.1 c.2.2.2.1 c.2.2.2.2.1 p1 p2 p3) (fun (b5 : Int32) (m6 : Nat → Int32) (m7 : Nat → Int32) => (some (b5, (m6, c.2.1, c.2.2.1, m7, c.2.2.2.2.1, c.2.2.2.2.2.1, c.2.2.2.2.2.2.1, c.2.2.2.2.2.2.2.1, c.2.2.2.2.2.2.2.2.1, c.2.2.2.2.2.2.2.2.2.1, c.2.2.2.2.2.2.2.2.2.2.1, c.2.2.2.2.2.2.2.2.2.2.2.1, c.2.2.2.2.2.2.2.2.2.2.2.2.1, c.2.2.2.2.2.2.2.2.2.2.2.2.2.1, c.2.2.2.2.2.2.2.2.2.2.2.2.2.2.1, c.2.2.2.2.2.2.2.2.2.2.2.2.2.2.2), m2, m3, b4)))))) else (some ((f_X0_loadingError c.2.2.2.1 p1 p2 p3), c, g, nx, sz)))
abbrev rm_X6_load : Room := { frames := 6, cells := 0, slots := 0, locals := 132 }
set_option maxHeartbeats 4000000 in
set_option maxRecDepth 100000 in
theorem c_X6_load (l : Launch) (D : va_G) (cI cC cR : ClassId) (h0 h1 t0 t1 : Nat) (a b d ah : Nat → Nat) (c : CV) (s0 : CV) (s1 : CV) (k0 : Int32) (k1 : Int32) (g : Nat → SV) (nx : Nat) (sz : Int32) (ch : Nat → Int32) (len : Int32) (cur : Int32) (verb : Int32) (fi : Int32) (se : Int32) (p1 : Int32) (p2 : Int32) (p3 : Int32) (hb_k0 : k0 = 0 ∨ k0 = 1) (hb_k1 : k1 = 0 ∨ k1 = 1) (hnx : nx < 5) (hb_g : ∀ i, ((g i).2.2.2.1 = 0 ∨ (g i).2.2.2.1 = 1) ∧ ((g i).2.2.2.2 = 0 ∨ (g i).2.2.2.2 = 1)) (Z : Nat) (r : Int32) (c' : CV) (g' : Nat → SV) (nx' : Nat) (sz' : Int32) (hF : f_X6_load Z c s0 s1 k0 k1 g nx sz p1 p2 p3 = some (r, c', g', nx', sz')) : MEq l yX6_load cX6_load 5 (some .int) rm_X6_load D (TY cI cC cR) [.ref h0, .int p1, .int p2, .int p3] (wj [[(h0, .inr (6, [.ref h1, .ref (ah 0), .ref t0]))], [(h1, .inr (3, [.ref (a 0), .ref (b 0), .ref (d 0), .int k0, .int k1]))], bC cI a c, bC cI b s0, bC cI d s1, bH cI cR ah g nx sz, wX4 cC t0 t1 ch len cur verb fi se]) (wj [[(h0, .inr (6, [.ref h1, .ref (ah 0), .ref t0]))], [(h1, .inr (3, [.ref (a 0), .ref (b 0), .ref (d 0), .int k0, .int k1]))], bC cI a c', bC cI b s0, bC cI d s1, bH cI cR ah g' nx' sz', wX4 cC t0 t1 ch len cur verb fi se]) (some (.int r)) := by
  refine me_e pn_X6 (Nat.le_of_ble_eq_true rfl) rfl (fun Γ X E hret => ?_)
  unfold f_X6_load at hF
  refine kw_aload_n X dX6_load_0 rfl 0 rfl ?_
  refine kb_get X inX6 0 0 rfl rfl rfl 0 (by decide) rfl gw_203 rfl dX6_load_1 ?_
  refine kb_getN X inX3 1 0 rfl rfl rfl 0 (by decide) rfl nw_22 rfl dX6_load_4 ?_
  refine kw_iload_n X dX6_load_7 rfl 1 rfl ?_
  refine kw_iload_n X dX6_load_8 rfl 2 rfl ?_
  refine kw_iload_n X dX6_load_9 rfl 3 rfl ?_
  refine kb_ap X (r := .int (f_X0_loadingError c.2.2.2.1 p1 p2 p3)) (As := [.int p1, .int p2, .int p3]) (st := []) (c_X0_loadingError l D cI cC cR (a 0) (a 1) (a 2) (a 3) (a 4) (a 5) (a 6) (a 7) (a 8) (a 9) (a 10) (a 11) (a 12) (a 13) (a 14) (a 15) (a 16) (a 17) (a 18) (a 19) c.1 c.2.1 c.2.2.1 c.2.2.2.1 c.2.2.2.2.1 c.2.2.2.2.2.1 c.2.2.2.2.2.2.1 c.2.2.2.2.2.2.2.1 c.2.2.2.2.2.2.2.2.1 c.2.2.2.2.2.2.2.2.2.1 c.2.2.2.2.2.2.2.2.2.2.1 c.2.2.2.2.2.2.2.2.2.2.2.1 c.2.2.2.2.2.2.2.2.2.2.2.2.1 c.2.2.2.2.2.2.2.2.2.2.2.2.2.1 c.2.2.2.2.2.2.2.2.2.2.2.2.2.2.1 c.2.2.2.2.2.2.2.2.2.2.2.2.2.2.2 p1 p2 p3 (f_X0_loadingError c.2.2.2.1 p1 p2 p3) rfl) vl_X6_71 yv_X0_loadingError ⟨Nat.le_of_ble_eq_true rfl, Nat.le_of_ble_eq_true rfl⟩ ⟨rfl, rfl⟩ ⟨Nat.zero_le _, Nat.zero_le _⟩ 2 0 rfl rfl rfl rfl rfl (Nat.le_of_ble_eq_true rfl) dX6_load_10 ?_
  refine kw_istore (lo' := [(0, .ref h0), (1, .int p1), (2, .int p2), (3, .int p3), (4, .int (f_X0_loadingError c.2.2.2.1 p1 p2 p3))]) X dX6_load_13 (by decide) [1, 2, 3, 4, 0] rfl ?_
  refine kw_iload X dX6_load_15 4 rfl ?_
  refine kw_if_eq X 23 dX6_load_17 (by decide) (fun q1 => ?_) (fun q1 => ?_)
  · replace hF := (if_pos q1).symm.trans hF
    refine kw_aload_n X dX6_load_23 rfl 0 rfl ?_
    refine kb_get X inX6 0 0 rfl rfl rfl 1 (by decide) rfl gw_204 rfl dX6_load_24 ?_
    refine kw_aload_n X dX6_load_27 rfl 0 rfl ?_
    refine kb_get X inX6 0 0 rfl rfl rfl 0 (by decide) rfl gw_203 rfl dX6_load_28 ?_
    obtain ⟨m2, m3, b4, hx4, hF⟩ := pl3_ex hF
    refine kb_mev X (As := [.ref h1]) (st := []) (bs' := [[(h0, .inr (6, [.ref h1, .ref (ah 0), .ref t0]))], [(h1, .inr (3, [.ref (a 0), .ref (b 0), .ref (d 0), .int k0, .int k1]))], bC cI a c, bC cI b s0, bC cI d s1, bH cI cR ah m2 m3 b4, wX4 cC t0 t1 ch len cur verb fi se]) E (c_X1_record l D cI cC cR ah h1 a b d g nx sz c s0 s1 k0 k1 hnx hb_k0 hb_k1 m2 m3 b4 hx4) vl_X6_40 yv_X1_record ⟨Nat.le_of_ble_eq_true rfl, Nat.le_of_ble_eq_true rfl⟩ ⟨rfl, rfl⟩ ⟨Nat.zero_le _, Nat.zero_le _⟩ 5 0 rfl rfl rfl [5, 1, 2, 3, 4] rfl rfl rfl rfl (Nat.le_of_ble_eq_true rfl) dX6_load_31 (wa_c bH_same (wa_c rfl (wa_c rfl (wa_c rfl (wa_c rfl rfl))))) rfl ?_
    refine kw_aload_n X dX6_load_34 rfl 0 rfl ?_
    refine kb_get X inX6 0 0 rfl rfl rfl 0 (by decide) rfl gw_203 rfl dX6_load_35 ?_
    refine kb_getN X inX3 1 0 rfl rfl rfl 0 (by decide) rfl nw_22 rfl dX6_load_38 ?_
    refine kw_iload_n X dX6_load_41 rfl 1 rfl ?_
    refine kw_iload_n X dX6_load_42 rfl 2 rfl ?_
    refine kw_iload_n X dX6_load_43 rfl 3 rfl ?_
    obtain ⟨b5, m6, m7, hx7, hF⟩ := ob3_ex hF
    refine kb_aei X (r := .int b5) (As := [.int p1, .int p2, .int p3]) (st := []) (bs' := [[(h0, .inr (6, [.ref h1, .ref (ah 0), .ref t0]))], [(h1, .inr (3, [.ref (a 0), .ref (b 0), .ref (d 0), .int k0, .int k1]))], bC cI a (m6, c.2.1, c.2.2.1, m7, c.2.2.2.2.1, c.2.2.2.2.2.1, c.2.2.2.2.2.2.1, c.2.2.2.2.2.2.2.1, c.2.2.2.2.2.2.2.2.1, c.2.2.2.2.2.2.2.2.2.1, c.2.2.2.2.2.2.2.2.2.2.1, c.2.2.2.2.2.2.2.2.2.2.2.1, c.2.2.2.2.2.2.2.2.2.2.2.2.1, c.2.2.2.2.2.2.2.2.2.2.2.2.2.1, c.2.2.2.2.2.2.2.2.2.2.2.2.2.2.1, c.2.2.2.2.2.2.2.2.2.2.2.2.2.2.2), bC cI b s0, bC cI d s1, bH cI cR ah m2 m3 b4, wX4 cC t0 t1 ch len cur verb fi se]) E (c_X0_fillVan l D cI cC cR (a 0) (a 1) (a 2) (a 3) (a 4) (a 5) (a 6) (a 7) (a 8) (a 9) (a 10) (a 11) (a 12) (a 13) (a 14) (a 15) (a 16) (a 17) (a 18) (a 19) c.1 c.2.1 c.2.2.1 c.2.2.2.1 c.2.2.2.2.1 c.2.2.2.2.2.1 c.2.2.2.2.2.2.1 c.2.2.2.2.2.2.2.1 c.2.2.2.2.2.2.2.2.1 c.2.2.2.2.2.2.2.2.2.1 c.2.2.2.2.2.2.2.2.2.2.1 c.2.2.2.2.2.2.2.2.2.2.2.1 c.2.2.2.2.2.2.2.2.2.2.2.2.1 c.2.2.2.2.2.2.2.2.2.2.2.2.2.1 c.2.2.2.2.2.2.2.2.2.2.2.2.2.2.1 c.2.2.2.2.2.2.2.2.2.2.2.2.2.2.2 p1 p2 p3 Z b5 m6 m7 hx7) vl_X6_75 yv_X0_fillVan ⟨Nat.le_of_ble_eq_true rfl, Nat.le_of_ble_eq_true rfl⟩ ⟨rfl, rfl⟩ ⟨Nat.zero_le _, Nat.zero_le _⟩ 2 0 rfl rfl rfl rfl rfl (Nat.le_of_ble_eq_true rfl) dX6_load_44 [(a 0), (a 1), (a 2), (a 3), (a 4), (a 5), (a 6), (a 7), (a 8), (a 9), (a 10), (a 11), (a 12), (a 13), (a 14), (a 15), (a 16), (a 17), (a 18), (a 19)] rfl rfl rfl ?_
    obtain ⟨rfl, rfl, rfl, rfl, rfl⟩ := si5 hF
    exact hret _ _ (vp_nar_int _) dX6_load_47
  · replace hF := (if_neg q1).symm.trans hF
    refine kw_iload X dX6_load_20 4 rfl ?_
    obtain ⟨rfl, rfl, rfl, rfl, rfl⟩ := si5 hF
    exact hret _ _ (vp_nar_int _) dX6_load_22
-- X6_unload
def f_X6_unload (Z : Nat) (c : CV) (s0 : CV) (s1 : CV) (k0 : Int32) (k1 : Int32) (g : Nat → SV) (nx : Nat) (sz : Int32) (p1 : Int32) (p2 : Int32) (p3 : Int32) : Option (Int32 × CV × (Nat → SV) × Nat × Int32) :=
  (ob1 (f_X0_unloadingError Z c.1 c.2.1 c.2.2.2.1 c.2.2.2.2.1 c.2.2.2.2.2.1 p1 p2 p3) (fun (b1 : Int32) => (if b1 = 0 then (pl3 (f_X1_record g nx sz c s0 s1 k0 k1) (fun (m3 : Nat → SV) (m4 : Nat) (b5 : Int32) => (ob3 (f_X0_emptyVan Z c.1 c.2.1 c.2.2.2.1 c.2.2.2.2.1 p1 p2 p3) (fun (b6 : Int32) (m7 : Nat → Int32) (m8 : Nat → Int32) => (some (b6, (m7, c.2.1, c.2.2.1, m8, c.2.2.2.2.1, c.2.2.2.2.2.1, c.2.2.2.2.2.2.1, c.2.2.2.2.2.2.2.1, c.2.2.2.2.2.2.2.2.1, c.2.2.2.2.2.2.2.2.2.1, c.2.2.2.2.2.2.2.2.2.2.1, c.2.2.2.2.2.2.2.2.2.2.2.1, c.2.2.2.2.2.2.2.2.2.2.2.2.1, c.2.2.2.2.2.2.2.2.2.2.2.2.2.1, c.2.2.2.2.2.2.2.2.2.2.2.2.2.2.1, c.2.2.2.2.2.2.2.2.2.2.2.2.2.2.2), m3, m4, b5)))))) else (some (b1, c, g, nx, sz)))))
abbrev rm_X6_unload : Room := { frames := 6, cells := 0, slots := 0, locals := 132 }
set_option maxHeartbeats 4000000 in
set_option maxRecDepth 100000 in
theorem c_X6_unload (l : Launch) (D : va_G) (cI cC cR : ClassId) (h0 h1 t0 t1 : Nat) (a b d ah : Nat → Nat) (c : CV) (s0 : CV) (s1 : CV) (k0 : Int32) (k1 : Int32) (g : Nat → SV) (nx : Nat) (sz : Int32) (ch : Nat → Int32) (len : Int32) (cur : Int32) (verb : Int32) (fi : Int32) (se : Int32) (p1 : Int32) (p2 : Int32) (p3 : Int32) (hb_k0 : k0 = 0 ∨ k0 = 1) (hb_k1 : k1 = 0 ∨ k1 = 1) (hnx : nx < 5) (hb_g : ∀ i, ((g i).2.2.2.1 = 0 ∨ (g i).2.2.2.1 = 1) ∧ ((g i).2.2.2.2 = 0 ∨ (g i).2.2.2.2 = 1)) (Z : Nat) (r : Int32) (c' : CV) (g' : Nat → SV) (nx' : Nat) (sz' : Int32) (hF : f_X6_unload Z c s0 s1 k0 k1 g nx sz p1 p2 p3 = some (r, c', g', nx', sz')) : MEq l yX6_unload cX6_unload 5 (some .int) rm_X6_unload D (TY cI cC cR) [.ref h0, .int p1, .int p2, .int p3] (wj [[(h0, .inr (6, [.ref h1, .ref (ah 0), .ref t0]))], [(h1, .inr (3, [.ref (a 0), .ref (b 0), .ref (d 0), .int k0, .int k1]))], bC cI a c, bC cI b s0, bC cI d s1, bH cI cR ah g nx sz, wX4 cC t0 t1 ch len cur verb fi se]) (wj [[(h0, .inr (6, [.ref h1, .ref (ah 0), .ref t0]))], [(h1, .inr (3, [.ref (a 0), .ref (b 0), .ref (d 0), .int k0, .int k1]))], bC cI a c', bC cI b s0, bC cI d s1, bH cI cR ah g' nx' sz', wX4 cC t0 t1 ch len cur verb fi se]) (some (.int r)) := by
  refine me_e pn_X6 (Nat.le_of_ble_eq_true rfl) rfl (fun Γ X E hret => ?_)
  unfold f_X6_unload at hF
  refine kw_aload_n X dX6_unload_0 rfl 0 rfl ?_
  refine kb_get X inX6 0 0 rfl rfl rfl 0 (by decide) rfl gw_203 rfl dX6_unload_1 ?_
  refine kb_getN X inX3 1 0 rfl rfl rfl 0 (by decide) rfl nw_22 rfl dX6_unload_4 ?_
  refine kw_iload_n X dX6_unload_7 rfl 1 rfl ?_
  refine kw_iload_n X dX6_unload_8 rfl 2 rfl ?_
  refine kw_iload_n X dX6_unload_9 rfl 3 rfl ?_
  obtain ⟨b1, hx1, hF⟩ := ob1_ex hF
  refine kb_ap X (r := .int b1) (As := [.int p1, .int p2, .int p3]) (st := []) (c_X0_unloadingError l D cI cC cR (a 0) (a 1) (a 2) (a 3) (a 4) (a 5) (a 6) (a 7) (a 8) (a 9) (a 10) (a 11) (a 12) (a 13) (a 14) (a 15) (a 16) (a 17) (a 18) (a 19) c.1 c.2.1 c.2.2.1 c.2.2.2.1 c.2.2.2.2.1 c.2.2.2.2.2.1 c.2.2.2.2.2.2.1 c.2.2.2.2.2.2.2.1 c.2.2.2.2.2.2.2.2.1 c.2.2.2.2.2.2.2.2.2.1 c.2.2.2.2.2.2.2.2.2.2.1 c.2.2.2.2.2.2.2.2.2.2.2.1 c.2.2.2.2.2.2.2.2.2.2.2.2.1 c.2.2.2.2.2.2.2.2.2.2.2.2.2.1 c.2.2.2.2.2.2.2.2.2.2.2.2.2.2.1 c.2.2.2.2.2.2.2.2.2.2.2.2.2.2.2 p1 p2 p3 Z b1 hx1) vl_X6_78 yv_X0_unloadingError ⟨Nat.le_of_ble_eq_true rfl, Nat.le_of_ble_eq_true rfl⟩ ⟨rfl, rfl⟩ ⟨Nat.zero_le _, Nat.zero_le _⟩ 2 0 rfl rfl rfl rfl rfl (Nat.le_of_ble_eq_true rfl) dX6_unload_10 ?_
  refine kw_istore (lo' := [(0, .ref h0), (1, .int p1), (2, .int p2), (3, .int p3), (4, .int b1)]) X dX6_unload_13 (by decide) [1, 2, 3, 4, 0] rfl ?_
  refine kw_iload X dX6_unload_15 4 rfl ?_
  refine kw_if_eq X 23 dX6_unload_17 (by decide) (fun q2 => ?_) (fun q2 => ?_)
  · replace hF := (if_pos q2).symm.trans hF
    refine kw_aload_n X dX6_unload_23 rfl 0 rfl ?_
    refine kb_get X inX6 0 0 rfl rfl rfl 1 (by decide) rfl gw_204 rfl dX6_unload_24 ?_
    refine kw_aload_n X dX6_unload_27 rfl 0 rfl ?_
    refine kb_get X inX6 0 0 rfl rfl rfl 0 (by decide) rfl gw_203 rfl dX6_unload_28 ?_
    obtain ⟨m3, m4, b5, hx5, hF⟩ := pl3_ex hF
    refine kb_mev X (As := [.ref h1]) (st := []) (bs' := [[(h0, .inr (6, [.ref h1, .ref (ah 0), .ref t0]))], [(h1, .inr (3, [.ref (a 0), .ref (b 0), .ref (d 0), .int k0, .int k1]))], bC cI a c, bC cI b s0, bC cI d s1, bH cI cR ah m3 m4 b5, wX4 cC t0 t1 ch len cur verb fi se]) E (c_X1_record l D cI cC cR ah h1 a b d g nx sz c s0 s1 k0 k1 hnx hb_k0 hb_k1 m3 m4 b5 hx5) vl_X6_40 yv_X1_record ⟨Nat.le_of_ble_eq_true rfl, Nat.le_of_ble_eq_true rfl⟩ ⟨rfl, rfl⟩ ⟨Nat.zero_le _, Nat.zero_le _⟩ 5 0 rfl rfl rfl [5, 1, 2, 3, 4] rfl rfl rfl rfl (Nat.le_of_ble_eq_true rfl) dX6_unload_31 (wa_c bH_same (wa_c rfl (wa_c rfl (wa_c rfl (wa_c rfl rfl))))) rfl ?_
    refine kw_aload_n X dX6_unload_34 rfl 0 rfl ?_
    refine kb_get X inX6 0 0 rfl rfl rfl 0 (by decide) rfl gw_203 rfl dX6_unload_35 ?_
    refine kb_getN X inX3 1 0 rfl rfl rfl 0 (by decide) rfl nw_22 rfl dX6_unload_38 ?_
    refine kw_iload_n X dX6_unload_41 rfl 1 rfl ?_
    refine kw_iload_n X dX6_unload_42 rfl 2 rfl ?_
    refine kw_iload_n X dX6_unload_43 rfl 3 rfl ?_
    obtain ⟨b6, m7, m8, hx8, hF⟩ := ob3_ex hF
    refine kb_aei X (r := .int b6) (As := [.int p1, .int p2, .int p3]) (st := []) (bs' := [[(h0, .inr (6, [.ref h1, .ref (ah 0), .ref t0]))], [(h1, .inr (3, [.ref (a 0), .ref (b 0), .ref (d 0), .int k0, .int k1]))], bC cI a (m7, c.2.1, c.2.2.1, m8, c.2.2.2.2.1, c.2.2.2.2.2.1, c.2.2.2.2.2.2.1, c.2.2.2.2.2.2.2.1, c.2.2.2.2.2.2.2.2.1, c.2.2.2.2.2.2.2.2.2.1, c.2.2.2.2.2.2.2.2.2.2.1, c.2.2.2.2.2.2.2.2.2.2.2.1, c.2.2.2.2.2.2.2.2.2.2.2.2.1, c.2.2.2.2.2.2.2.2.2.2.2.2.2.1, c.2.2.2.2.2.2.2.2.2.2.2.2.2.2.1, c.2.2.2.2.2.2.2.2.2.2.2.2.2.2.2), bC cI b s0, bC cI d s1, bH cI cR ah m3 m4 b5, wX4 cC t0 t1 ch len cur verb fi se]) E (c_X0_emptyVan l D cI cC cR (a 0) (a 1) (a 2) (a 3) (a 4) (a 5) (a 6) (a 7) (a 8) (a 9) (a 10) (a 11) (a 12) (a 13) (a 14) (a 15) (a 16) (a 17) (a 18) (a 19) c.1 c.2.1 c.2.2.1 c.2.2.2.1 c.2.2.2.2.1 c.2.2.2.2.2.1 c.2.2.2.2.2.2.1 c.2.2.2.2.2.2.2.1 c.2.2.2.2.2.2.2.2.1 c.2.2.2.2.2.2.2.2.2.1 c.2.2.2.2.2.2.2.2.2.2.1 c.2.2.2.2.2.2.2.2.2.2.2.1 c.2.2.2.2.2.2.2.2.2.2.2.2.1 c.2.2.2.2.2.2.2.2.2.2.2.2.2.1 c.2.2.2.2.2.2.2.2.2.2.2.2.2.2.1 c.2.2.2.2.2.2.2.2.2.2.2.2.2.2.2 p1 p2 p3 Z b6 m7 m8 hx8) vl_X6_81 yv_X0_emptyVan ⟨Nat.le_of_ble_eq_true rfl, Nat.le_of_ble_eq_true rfl⟩ ⟨rfl, rfl⟩ ⟨Nat.zero_le _, Nat.zero_le _⟩ 2 0 rfl rfl rfl rfl rfl (Nat.le_of_ble_eq_true rfl) dX6_unload_44 [(a 0), (a 1), (a 2), (a 3), (a 4), (a 5), (a 6), (a 7), (a 8), (a 9), (a 10), (a 11), (a 12), (a 13), (a 14), (a 15), (a 16), (a 17), (a 18), (a 19)] rfl rfl rfl ?_
    obtain ⟨rfl, rfl, rfl, rfl, rfl⟩ := si5 hF
    exact hret _ _ (vp_nar_int _) dX6_unload_47
  · replace hF := (if_neg q2).symm.trans hF
    refine kw_iload X dX6_unload_20 4 rfl ?_
    obtain ⟨rfl, rfl, rfl, rfl, rfl⟩ := si5 hF
    exact hret _ _ (vp_nar_int _) dX6_unload_22
-- X6_toWorkshop
def f_X6_toWorkshop (Z : Nat) (c : CV) (s0 : CV) (s1 : CV) (k0 : Int32) (k1 : Int32) (g : Nat → SV) (nx : Nat) (sz : Int32) (p1 : Int32) : Option (Int32 × CV × (Nat → SV) × Nat × Int32) :=
  (ob1 (f_X0_deliveringError Z c.1 c.2.1 c.2.2.2.2.1 p1) (fun (b1 : Int32) => (if b1 = 0 then (pl3 (f_X1_record g nx sz c s0 s1 k0 k1) (fun (m3 : Nat → SV) (m4 : Nat) (b5 : Int32) => (ob3 (f_X0_deliver Z c.1 c.2.1 c.2.2.2.1 c.2.2.2.2.1 p1) (fun (b6 : Int32) (m7 : Nat → Int32) (m8 : Nat → Int32) => (some (b6, (m7, c.2.1, c.2.2.1, m8, c.2.2.2.2.1, c.2.2.2.2.2.1, c.2.2.2.2.2.2.1, c.2.2.2.2.2.2.2.1, c.2.2.2.2.2.2.2.2.1, c.2.2.2.2.2.2.2.2.2.1, c.2.2.2.2.2.2.2.2.2.2.1, c.2.2.2.2.2.2.2.2.2.2.2.1, c.2.2.2.2.2.2.2.2.2.2.2.2.1, c.2.2.2.2.2.2.2.2.2.2.2.2.2.1, c.2.2.2.2.2.2.2.2.2.2.2.2.2.2.1, c.2.2.2.2.2.2.2.2.2.2.2.2.2.2.2), m3, m4, b5)))))) else (some (b1, c, g, nx, sz)))))
abbrev rm_X6_toWorkshop : Room := { frames := 6, cells := 0, slots := 0, locals := 132 }
set_option maxHeartbeats 4000000 in
set_option maxRecDepth 100000 in
theorem c_X6_toWorkshop (l : Launch) (D : va_G) (cI cC cR : ClassId) (h0 h1 t0 t1 : Nat) (a b d ah : Nat → Nat) (c : CV) (s0 : CV) (s1 : CV) (k0 : Int32) (k1 : Int32) (g : Nat → SV) (nx : Nat) (sz : Int32) (ch : Nat → Int32) (len : Int32) (cur : Int32) (verb : Int32) (fi : Int32) (se : Int32) (p1 : Int32) (hb_k0 : k0 = 0 ∨ k0 = 1) (hb_k1 : k1 = 0 ∨ k1 = 1) (hnx : nx < 5) (hb_g : ∀ i, ((g i).2.2.2.1 = 0 ∨ (g i).2.2.2.1 = 1) ∧ ((g i).2.2.2.2 = 0 ∨ (g i).2.2.2.2 = 1)) (Z : Nat) (r : Int32) (c' : CV) (g' : Nat → SV) (nx' : Nat) (sz' : Int32) (hF : f_X6_toWorkshop Z c s0 s1 k0 k1 g nx sz p1 = some (r, c', g', nx', sz')) : MEq l yX6_toWorkshop cX6_toWorkshop 3 (some .int) rm_X6_toWorkshop D (TY cI cC cR) [.ref h0, .int p1] (wj [[(h0, .inr (6, [.ref h1, .ref (ah 0), .ref t0]))], [(h1, .inr (3, [.ref (a 0), .ref (b 0), .ref (d 0), .int k0, .int k1]))], bC cI a c, bC cI b s0, bC cI d s1, bH cI cR ah g nx sz, wX4 cC t0 t1 ch len cur verb fi se]) (wj [[(h0, .inr (6, [.ref h1, .ref (ah 0), .ref t0]))], [(h1, .inr (3, [.ref (a 0), .ref (b 0), .ref (d 0), .int k0, .int k1]))], bC cI a c', bC cI b s0, bC cI d s1, bH cI cR ah g' nx' sz', wX4 cC t0 t1 ch len cur verb fi se]) (some (.int r)) := by
  refine me_e pn_X6 (Nat.le_of_ble_eq_true rfl) rfl (fun Γ X E hret => ?_)
  unfold f_X6_toWorkshop at hF
  refine kw_aload_n X dX6_toWorkshop_0 rfl 0 rfl ?_
  refine kb_get X inX6 0 0 rfl rfl rfl 0 (by decide) rfl gw_203 rfl dX6_toWorkshop_1 ?_
  refine kb_getN X inX3 1 0 rfl rfl rfl 0 (by decide) rfl nw_22 rfl dX6_toWorkshop_4 ?_
  refine kw_iload_n X dX6_toWorkshop_7 rfl 1 rfl ?_
  obtain ⟨b1, hx1, hF⟩ := ob1_ex hF
  refine kb_ap X (r := .int b1) (As := [.int p1]) (st := []) (c_X0_deliveringError l D cI cC cR (a 0) (a 1) (a 2) (a 3) (a 4) (a 5) (a 6) (a 7) (a 8) (a 9) (a 10) (a 11) (a 12) (a 13) (a 14) (a 15) (a 16) (a 17) (a 18) (a 19) c.1 c.2.1 c.2.2.1 c.2.2.2.1 c.2.2.2.2.1 c.2.2.2.2.2.1 c.2.2.2.2.2.2.1 c.2.2.2.2.2.2.2.1 c.2.2.2.2.2.2.2.2.1 c.2.2.2.2.2.2.2.2.2.1 c.2.2.2.2.2.2.2.2.2.2.1 c.2.2.2.2.2.2.2.2.2.2.2.1 c.2.2.2.2.2.2.2.2.2.2.2.2.1 c.2.2.2.2.2.2.2.2.2.2.2.2.2.1 c.2.2.2.2.2.2.2.2.2.2.2.2.2.2.1 c.2.2.2.2.2.2.2.2.2.2.2.2.2.2.2 p1 Z b1 hx1) vl_X6_84 yv_X0_deliveringError ⟨Nat.le_of_ble_eq_true rfl, Nat.le_of_ble_eq_true rfl⟩ ⟨rfl, rfl⟩ ⟨Nat.zero_le _, Nat.zero_le _⟩ 2 0 rfl rfl rfl rfl rfl (Nat.le_of_ble_eq_true rfl) dX6_toWorkshop_8 ?_
  refine kw_istore_n (lo' := [(0, .ref h0), (1, .int p1), (2, .int b1)]) X dX6_toWorkshop_11 rfl (by decide) [1, 2, 0] rfl ?_
  refine kw_iload_n X dX6_toWorkshop_12 rfl 2 rfl ?_
  refine kw_if_eq X 18 dX6_toWorkshop_13 (by decide) (fun q2 => ?_) (fun q2 => ?_)
  · replace hF := (if_pos q2).symm.trans hF
    refine kw_aload_n X dX6_toWorkshop_18 rfl 0 rfl ?_
    refine kb_get X inX6 0 0 rfl rfl rfl 1 (by decide) rfl gw_204 rfl dX6_toWorkshop_19 ?_
    refine kw_aload_n X dX6_toWorkshop_22 rfl 0 rfl ?_
    refine kb_get X inX6 0 0 rfl rfl rfl 0 (by decide) rfl gw_203 rfl dX6_toWorkshop_23 ?_
    obtain ⟨m3, m4, b5, hx5, hF⟩ := pl3_ex hF
    refine kb_mev X (As := [.ref h1]) (st := []) (bs' := [[(h0, .inr (6, [.ref h1, .ref (ah 0), .ref t0]))], [(h1, .inr (3, [.ref (a 0), .ref (b 0), .ref (d 0), .int k0, .int k1]))], bC cI a c, bC cI b s0, bC cI d s1, bH cI cR ah m3 m4 b5, wX4 cC t0 t1 ch len cur verb fi se]) E (c_X1_record l D cI cC cR ah h1 a b d g nx sz c s0 s1 k0 k1 hnx hb_k0 hb_k1 m3 m4 b5 hx5) vl_X6_40 yv_X1_record ⟨Nat.le_of_ble_eq_true rfl, Nat.le_of_ble_eq_true rfl⟩ ⟨rfl, rfl⟩ ⟨Nat.zero_le _, Nat.zero_le _⟩ 5 0 rfl rfl rfl [5, 1, 2, 3, 4] rfl rfl rfl rfl (Nat.le_of_ble_eq_true rfl) dX6_toWorkshop_26 (wa_c bH_same (wa_c rfl (wa_c rfl (wa_c rfl (wa_c rfl rfl))))) rfl ?_
    refine kw_aload_n X dX6_toWorkshop_29 rfl 0 rfl ?_
    refine kb_get X inX6 0 0 rfl rfl rfl 0 (by decide) rfl gw_203 rfl dX6_toWorkshop_30 ?_
    refine kb_getN X inX3 1 0 rfl rfl rfl 0 (by decide) rfl nw_22 rfl dX6_toWorkshop_33 ?_
    refine kw_iload_n X dX6_toWorkshop_36 rfl 1 rfl ?_
    obtain ⟨b6, m7, m8, hx8, hF⟩ := ob3_ex hF
    refine kb_aei X (r := .int b6) (As := [.int p1]) (st := []) (bs' := [[(h0, .inr (6, [.ref h1, .ref (ah 0), .ref t0]))], [(h1, .inr (3, [.ref (a 0), .ref (b 0), .ref (d 0), .int k0, .int k1]))], bC cI a (m7, c.2.1, c.2.2.1, m8, c.2.2.2.2.1, c.2.2.2.2.2.1, c.2.2.2.2.2.2.1, c.2.2.2.2.2.2.2.1, c.2.2.2.2.2.2.2.2.1, c.2.2.2.2.2.2.2.2.2.1, c.2.2.2.2.2.2.2.2.2.2.1, c.2.2.2.2.2.2.2.2.2.2.2.1, c.2.2.2.2.2.2.2.2.2.2.2.2.1, c.2.2.2.2.2.2.2.2.2.2.2.2.2.1, c.2.2.2.2.2.2.2.2.2.2.2.2.2.2.1, c.2.2.2.2.2.2.2.2.2.2.2.2.2.2.2), bC cI b s0, bC cI d s1, bH cI cR ah m3 m4 b5, wX4 cC t0 t1 ch len cur verb fi se]) E (c_X0_deliver l D cI cC cR (a 0) (a 1) (a 2) (a 3) (a 4) (a 5) (a 6) (a 7) (a 8) (a 9) (a 10) (a 11) (a 12) (a 13) (a 14) (a 15) (a 16) (a 17) (a 18) (a 19) c.1 c.2.1 c.2.2.1 c.2.2.2.1 c.2.2.2.2.1 c.2.2.2.2.2.1 c.2.2.2.2.2.2.1 c.2.2.2.2.2.2.2.1 c.2.2.2.2.2.2.2.2.1 c.2.2.2.2.2.2.2.2.2.1 c.2.2.2.2.2.2.2.2.2.2.1 c.2.2.2.2.2.2.2.2.2.2.2.1 c.2.2.2.2.2.2.2.2.2.2.2.2.1 c.2.2.2.2.2.2.2.2.2.2.2.2.2.1 c.2.2.2.2.2.2.2.2.2.2.2.2.2.2.1 c.2.2.2.2.2.2.2.2.2.2.2.2.2.2.2 p1 Z b6 m7 m8 hx8) vl_X6_88 yv_X0_deliver ⟨Nat.le_of_ble_eq_true rfl, Nat.le_of_ble_eq_true rfl⟩ ⟨rfl, rfl⟩ ⟨Nat.zero_le _, Nat.zero_le _⟩ 2 0 rfl rfl rfl rfl rfl (Nat.le_of_ble_eq_true rfl) dX6_toWorkshop_37 [(a 0), (a 1), (a 2), (a 3), (a 4), (a 5), (a 6), (a 7), (a 8), (a 9), (a 10), (a 11), (a 12), (a 13), (a 14), (a 15), (a 16), (a 17), (a 18), (a 19)] rfl rfl rfl ?_
    obtain ⟨rfl, rfl, rfl, rfl, rfl⟩ := si5 hF
    exact hret _ _ (vp_nar_int _) dX6_toWorkshop_40
  · replace hF := (if_neg q2).symm.trans hF
    refine kw_iload_n X dX6_toWorkshop_16 rfl 2 rfl ?_
    obtain ⟨rfl, rfl, rfl, rfl, rfl⟩ := si5 hF
    exact hret _ _ (vp_nar_int _) dX6_toWorkshop_17
-- X6_mend
def f_X6_mend (Z : Nat) (c : CV) (s0 : CV) (s1 : CV) (k0 : Int32) (k1 : Int32) (g : Nat → SV) (nx : Nat) (sz : Int32) (p1 : Int32) : Option (Int32 × CV × (Nat → SV) × Nat × Int32) :=
  (ob1 (f_X0_mendingError Z c.2.2.2.1 c.2.2.2.2.2.1 c.2.2.2.2.2.2.2.2.2.2.2.1 p1) (fun (b1 : Int32) => (if b1 = 0 then (pl3 (f_X1_record g nx sz c s0 s1 k0 k1) (fun (m3 : Nat → SV) (m4 : Nat) (b5 : Int32) => (ob6 (f_X0_mendOne Z c.1 c.2.1 c.2.2.2.1 c.2.2.2.2.1 c.2.2.2.2.2.2.2.2.2.2.2.1 c.2.2.2.2.2.2.2.2.2.2.2.2.1 p1) (fun (b6 : Int32) (m7 : Nat → Int32) (m8 : Nat → Int32) (m9 : Nat → Int32) (b10 : Int32) (b11 : Int32) => (some (b6, (m7, m8, c.2.2.1, m9, c.2.2.2.2.1, c.2.2.2.2.2.1, c.2.2.2.2.2.2.1, c.2.2.2.2.2.2.2.1, c.2.2.2.2.2.2.2.2.1, c.2.2.2.2.2.2.2.2.2.1, c.2.2.2.2.2.2.2.2.2.2.1, b10, b11, c.2.2.2.2.2.2.2.2.2.2.2.2.2.1, c.2.2.2.2.2.2.2.2.2.2.2.2.2.2.1, c.2.2.2.2.2.2.2.2.2.2.2.2.2.2.2), m3, m4, b5)))))) else (some (b1, c, g, nx, sz)))))
abbrev rm_X6_mend : Room := { frames := 6, cells := 0, slots := 0, locals := 132 }
set_option maxHeartbeats 4000000 in
set_option maxRecDepth 100000 in
theorem c_X6_mend (l : Launch) (D : va_G) (cI cC cR : ClassId) (h0 h1 t0 t1 : Nat) (a b d ah : Nat → Nat) (c : CV) (s0 : CV) (s1 : CV) (k0 : Int32) (k1 : Int32) (g : Nat → SV) (nx : Nat) (sz : Int32) (ch : Nat → Int32) (len : Int32) (cur : Int32) (verb : Int32) (fi : Int32) (se : Int32) (p1 : Int32) (hb_k0 : k0 = 0 ∨ k0 = 1) (hb_k1 : k1 = 0 ∨ k1 = 1) (hnx : nx < 5) (hb_g : ∀ i, ((g i).2.2.2.1 = 0 ∨ (g i).2.2.2.1 = 1) ∧ ((g i).2.2.2.2 = 0 ∨ (g i).2.2.2.2 = 1)) (Z : Nat) (r : Int32) (c' : CV) (g' : Nat → SV) (nx' : Nat) (sz' : Int32) (hF : f_X6_mend Z c s0 s1 k0 k1 g nx sz p1 = some (r, c', g', nx', sz')) : MEq l yX6_mend cX6_mend 3 (some .int) rm_X6_mend D (TY cI cC cR) [.ref h0, .int p1] (wj [[(h0, .inr (6, [.ref h1, .ref (ah 0), .ref t0]))], [(h1, .inr (3, [.ref (a 0), .ref (b 0), .ref (d 0), .int k0, .int k1]))], bC cI a c, bC cI b s0, bC cI d s1, bH cI cR ah g nx sz, wX4 cC t0 t1 ch len cur verb fi se]) (wj [[(h0, .inr (6, [.ref h1, .ref (ah 0), .ref t0]))], [(h1, .inr (3, [.ref (a 0), .ref (b 0), .ref (d 0), .int k0, .int k1]))], bC cI a c', bC cI b s0, bC cI d s1, bH cI cR ah g' nx' sz', wX4 cC t0 t1 ch len cur verb fi se]) (some (.int r)) := by
  refine me_e pn_X6 (Nat.le_of_ble_eq_true rfl) rfl (fun Γ X E hret => ?_)
  unfold f_X6_mend at hF
  refine kw_aload_n X dX6_mend_0 rfl 0 rfl ?_
  refine kb_get X inX6 0 0 rfl rfl rfl 0 (by decide) rfl gw_203 rfl dX6_mend_1 ?_
  refine kb_getN X inX3 1 0 rfl rfl rfl 0 (by decide) rfl nw_22 rfl dX6_mend_4 ?_
  refine kw_iload_n X dX6_mend_7 rfl 1 rfl ?_
  obtain ⟨b1, hx1, hF⟩ := ob1_ex hF
  refine kb_ap X (r := .int b1) (As := [.int p1]) (st := []) (c_X0_mendingError l D cI cC cR (a 0) (a 1) (a 2) (a 3) (a 4) (a 5) (a 6) (a 7) (a 8) (a 9) (a 10) (a 11) (a 12) (a 13) (a 14) (a 15) (a 16) (a 17) (a 18) (a 19) c.1 c.2.1 c.2.2.1 c.2.2.2.1 c.2.2.2.2.1 c.2.2.2.2.2.1 c.2.2.2.2.2.2.1 c.2.2.2.2.2.2.2.1 c.2.2.2.2.2.2.2.2.1 c.2.2.2.2.2.2.2.2.2.1 c.2.2.2.2.2.2.2.2.2.2.1 c.2.2.2.2.2.2.2.2.2.2.2.1 c.2.2.2.2.2.2.2.2.2.2.2.2.1 c.2.2.2.2.2.2.2.2.2.2.2.2.2.1 c.2.2.2.2.2.2.2.2.2.2.2.2.2.2.1 c.2.2.2.2.2.2.2.2.2.2.2.2.2.2.2 p1 Z b1 hx1) vl_X6_91 yv_X0_mendingError ⟨Nat.le_of_ble_eq_true rfl, Nat.le_of_ble_eq_true rfl⟩ ⟨rfl, rfl⟩ ⟨Nat.zero_le _, Nat.zero_le _⟩ 2 0 rfl rfl rfl rfl rfl (Nat.le_of_ble_eq_true rfl) dX6_mend_8 ?_
  refine kw_istore_n (lo' := [(0, .ref h0), (1, .int p1), (2, .int b1)]) X dX6_mend_11 rfl (by decide) [1, 2, 0] rfl ?_
  refine kw_iload_n X dX6_mend_12 rfl 2 rfl ?_
  refine kw_if_eq X 18 dX6_mend_13 (by decide) (fun q2 => ?_) (fun q2 => ?_)
  · replace hF := (if_pos q2).symm.trans hF
    refine kw_aload_n X dX6_mend_18 rfl 0 rfl ?_
    refine kb_get X inX6 0 0 rfl rfl rfl 1 (by decide) rfl gw_204 rfl dX6_mend_19 ?_
    refine kw_aload_n X dX6_mend_22 rfl 0 rfl ?_
    refine kb_get X inX6 0 0 rfl rfl rfl 0 (by decide) rfl gw_203 rfl dX6_mend_23 ?_
    obtain ⟨m3, m4, b5, hx5, hF⟩ := pl3_ex hF
    refine kb_mev X (As := [.ref h1]) (st := []) (bs' := [[(h0, .inr (6, [.ref h1, .ref (ah 0), .ref t0]))], [(h1, .inr (3, [.ref (a 0), .ref (b 0), .ref (d 0), .int k0, .int k1]))], bC cI a c, bC cI b s0, bC cI d s1, bH cI cR ah m3 m4 b5, wX4 cC t0 t1 ch len cur verb fi se]) E (c_X1_record l D cI cC cR ah h1 a b d g nx sz c s0 s1 k0 k1 hnx hb_k0 hb_k1 m3 m4 b5 hx5) vl_X6_40 yv_X1_record ⟨Nat.le_of_ble_eq_true rfl, Nat.le_of_ble_eq_true rfl⟩ ⟨rfl, rfl⟩ ⟨Nat.zero_le _, Nat.zero_le _⟩ 5 0 rfl rfl rfl [5, 1, 2, 3, 4] rfl rfl rfl rfl (Nat.le_of_ble_eq_true rfl) dX6_mend_26 (wa_c bH_same (wa_c rfl (wa_c rfl (wa_c rfl (wa_c rfl rfl))))) rfl ?_
    refine kw_aload_n X dX6_mend_29 rfl 0 rfl ?_
    refine kb_get X inX6 0 0 rfl rfl rfl 0 (by decide) rfl gw_203 rfl dX6_mend_30 ?_
    refine kb_getN X inX3 1 0 rfl rfl rfl 0 (by decide) rfl nw_22 rfl dX6_mend_33 ?_
    refine kw_iload_n X dX6_mend_36 rfl 1 rfl ?_
    obtain ⟨b6, m7, m8, m9, b10, b11, hx11, hF⟩ := ob6_ex hF
    refine kb_aei X (r := .int b6) (As := [.int p1]) (st := []) (bs' := [[(h0, .inr (6, [.ref h1, .ref (ah 0), .ref t0]))], [(h1, .inr (3, [.ref (a 0), .ref (b 0), .ref (d 0), .int k0, .int k1]))], bC cI a (m7, m8, c.2.2.1, m9, c.2.2.2.2.1, c.2.2.2.2.2.1, c.2.2.2.2.2.2.1, c.2.2.2.2.2.2.2.1, c.2.2.2.2.2.2.2.2.1, c.2.2.2.2.2.2.2.2.2.1, c.2.2.2.2.2.2.2.2.2.2.1, b10, b11, c.2.2.2.2.2.2.2.2.2.2.2.2.2.1, c.2.2.2.2.2.2.2.2.2.2.2.2.2.2.1, c.2.2.2.2.2.2.2.2.2.2.2.2.2.2.2), bC cI b s0, bC cI d s1, bH cI cR ah m3 m4 b5, wX4 cC t0 t1 ch len cur verb fi se]) E (c_X0_mendOne l D cI cC cR (a 0) (a 1) (a 2) (a 3) (a 4) (a 5) (a 6) (a 7) (a 8) (a 9) (a 10) (a 11) (a 12) (a 13) (a 14) (a 15) (a 16) (a 17) (a 18) (a 19) c.1 c.2.1 c.2.2.1 c.2.2.2.1 c.2.2.2.2.1 c.2.2.2.2.2.1 c.2.2.2.2.2.2.1 c.2.2.2.2.2.2.2.1 c.2.2.2.2.2.2.2.2.1 c.2.2.2.2.2.2.2.2.2.1 c.2.2.2.2.2.2.2.2.2.2.1 c.2.2.2.2.2.2.2.2.2.2.2.1 c.2.2.2.2.2.2.2.2.2.2.2.2.1 c.2.2.2.2.2.2.2.2.2.2.2.2.2.1 c.2.2.2.2.2.2.2.2.2.2.2.2.2.2.1 c.2.2.2.2.2.2.2.2.2.2.2.2.2.2.2 p1 Z b6 m7 m8 m9 b10 b11 hx11) vl_X6_94 yv_X0_mendOne ⟨Nat.le_of_ble_eq_true rfl, Nat.le_of_ble_eq_true rfl⟩ ⟨rfl, rfl⟩ ⟨Nat.zero_le _, Nat.zero_le _⟩ 2 0 rfl rfl rfl rfl rfl (Nat.le_of_ble_eq_true rfl) dX6_mend_37 [(a 0), (a 1), (a 2), (a 3), (a 4), (a 5), (a 6), (a 7), (a 8), (a 9), (a 10), (a 11), (a 12), (a 13), (a 14), (a 15), (a 16), (a 17), (a 18), (a 19)] rfl rfl rfl ?_
    obtain ⟨rfl, rfl, rfl, rfl, rfl⟩ := si5 hF
    exact hret _ _ (vp_nar_int _) dX6_mend_40
  · replace hF := (if_neg q2).symm.trans hF
    refine kw_iload_n X dX6_mend_16 rfl 2 rfl ?_
    obtain ⟨rfl, rfl, rfl, rfl, rfl⟩ := si5 hF
    exact hret _ _ (vp_nar_int _) dX6_mend_17
-- X6_level
def f_X6_level (Z : Nat) (c : CV) (s0 : CV) (s1 : CV) (k0 : Int32) (k1 : Int32) (g : Nat → SV) (nx : Nat) (sz : Int32) : Option (Int32 × CV × (Nat → SV) × Nat × Int32) :=
  (pl3 (f_X1_record g nx sz c s0 s1 k0 k1) (fun (m1 : Nat → SV) (m2 : Nat) (b3 : Int32) => (ob3 (f_X0_evenOut Z c.1 c.2.1 c.2.2.2.1 c.2.2.2.2.1 c.2.2.2.2.2.1) (fun (b4 : Int32) (m5 : Nat → Int32) (m6 : Nat → Int32) => (some (b4, (m5, c.2.1, c.2.2.1, m6, c.2.2.2.2.1, c.2.2.2.2.2.1, c.2.2.2.2.2.2.1, c.2.2.2.2.2.2.2.1, c.2.2.2.2.2.2.2.2.1, c.2.2.2.2.2.2.2.2.2.1, c.2.2.2.2.2.2.2.2.2.2.1, c.2.2.2.2.2.2.2.2.2.2.2.1, c.2.2.2.2.2.2.2.2.2.2.2.2.1, c.2.2.2.2.2.2.2.2.2.2.2.2.2.1, c.2.2.2.2.2.2.2.2.2.2.2.2.2.2.1, c.2.2.2.2.2.2.2.2.2.2.2.2.2.2.2), m1, m2, b3))))))
abbrev rm_X6_level : Room := { frames := 6, cells := 0, slots := 0, locals := 132 }
set_option maxHeartbeats 4000000 in
set_option maxRecDepth 100000 in
theorem c_X6_level (l : Launch) (D : va_G) (cI cC cR : ClassId) (h0 h1 t0 t1 : Nat) (a b d ah : Nat → Nat) (c : CV) (s0 : CV) (s1 : CV) (k0 : Int32) (k1 : Int32) (g : Nat → SV) (nx : Nat) (sz : Int32) (ch : Nat → Int32) (len : Int32) (cur : Int32) (verb : Int32) (fi : Int32) (se : Int32) (hb_k0 : k0 = 0 ∨ k0 = 1) (hb_k1 : k1 = 0 ∨ k1 = 1) (hnx : nx < 5) (hb_g : ∀ i, ((g i).2.2.2.1 = 0 ∨ (g i).2.2.2.1 = 1) ∧ ((g i).2.2.2.2 = 0 ∨ (g i).2.2.2.2 = 1)) (Z : Nat) (r : Int32) (c' : CV) (g' : Nat → SV) (nx' : Nat) (sz' : Int32) (hF : f_X6_level Z c s0 s1 k0 k1 g nx sz = some (r, c', g', nx', sz')) : MEq l yX6_level cX6_level 1 (some .int) rm_X6_level D (TY cI cC cR) [.ref h0] (wj [[(h0, .inr (6, [.ref h1, .ref (ah 0), .ref t0]))], [(h1, .inr (3, [.ref (a 0), .ref (b 0), .ref (d 0), .int k0, .int k1]))], bC cI a c, bC cI b s0, bC cI d s1, bH cI cR ah g nx sz, wX4 cC t0 t1 ch len cur verb fi se]) (wj [[(h0, .inr (6, [.ref h1, .ref (ah 0), .ref t0]))], [(h1, .inr (3, [.ref (a 0), .ref (b 0), .ref (d 0), .int k0, .int k1]))], bC cI a c', bC cI b s0, bC cI d s1, bH cI cR ah g' nx' sz', wX4 cC t0 t1 ch len cur verb fi se]) (some (.int r)) := by
  refine me_e pn_X6 (Nat.le_of_ble_eq_true rfl) rfl (fun Γ X E hret => ?_)
  unfold f_X6_level at hF
  refine kw_aload_n X dX6_level_0 rfl 0 rfl ?_
  refine kb_get X inX6 0 0 rfl rfl rfl 1 (by decide) rfl gw_204 rfl dX6_level_1 ?_
  refine kw_aload_n X dX6_level_4 rfl 0 rfl ?_
  refine kb_get X inX6 0 0 rfl rfl rfl 0 (by decide) rfl gw_203 rfl dX6_level_5 ?_
  obtain ⟨m1, m2, b3, hx3, hF⟩ := pl3_ex hF
  refine kb_mev X (As := [.ref h1]) (st := []) (bs' := [[(h0, .inr (6, [.ref h1, .ref (ah 0), .ref t0]))], [(h1, .inr (3, [.ref (a 0), .ref (b 0), .ref (d 0), .int k0, .int k1]))], bC cI a c, bC cI b s0, bC cI d s1, bH cI cR ah m1 m2 b3, wX4 cC t0 t1 ch len cur verb fi se]) E (c_X1_record l D cI cC cR ah h1 a b d g nx sz c s0 s1 k0 k1 hnx hb_k0 hb_k1 m1 m2 b3 hx3) vl_X6_40 yv_X1_record ⟨Nat.le_of_ble_eq_true rfl, Nat.le_of_ble_eq_true rfl⟩ ⟨rfl, rfl⟩ ⟨Nat.zero_le _, Nat.zero_le _⟩ 5 0 rfl rfl rfl [5, 1, 2, 3, 4] rfl rfl rfl rfl (Nat.le_of_ble_eq_true rfl) dX6_level_8 (wa_c bH_same (wa_c rfl (wa_c rfl (wa_c rfl (wa_c rfl rfl))))) rfl ?_
  refine kw_aload_n X dX6_level_11 rfl 0 rfl ?_
  refine kb_get X inX6 0 0 rfl rfl rfl 0 (by decide) rfl gw_203 rfl dX6_level_12 ?_
  refine kb_getN X inX3 1 0 rfl rfl rfl 0 (by decide) rfl nw_22 rfl dX6_level_15 ?_
  obtain ⟨b4, m5, m6, hx6, hF⟩ := ob3_ex hF
  refine kb_aei X (r := .int b4) (As := []) (st := []) (bs' := [[(h0, .inr (6, [.ref h1, .ref (ah 0), .ref t0]))], [(h1, .inr (3, [.ref (a 0), .ref (b 0), .ref (d 0), .int k0, .int k1]))], bC cI a (m5, c.2.1, c.2.2.1, m6, c.2.2.2.2.1, c.2.2.2.2.2.1, c.2.2.2.2.2.2.1, c.2.2.2.2.2.2.2.1, c.2.2.2.2.2.2.2.2.1, c.2.2.2.2.2.2.2.2.2.1, c.2.2.2.2.2.2.2.2.2.2.1, c.2.2.2.2.2.2.2.2.2.2.2.1, c.2.2.2.2.2.2.2.2.2.2.2.2.1, c.2.2.2.2.2.2.2.2.2.2.2.2.2.1, c.2.2.2.2.2.2.2.2.2.2.2.2.2.2.1, c.2.2.2.2.2.2.2.2.2.2.2.2.2.2.2), bC cI b s0, bC cI d s1, bH cI cR ah m1 m2 b3, wX4 cC t0 t1 ch len cur verb fi se]) E (c_X0_evenOut l D cI cC cR (a 0) (a 1) (a 2) (a 3) (a 4) (a 5) (a 6) (a 7) (a 8) (a 9) (a 10) (a 11) (a 12) (a 13) (a 14) (a 15) (a 16) (a 17) (a 18) (a 19) c.1 c.2.1 c.2.2.1 c.2.2.2.1 c.2.2.2.2.1 c.2.2.2.2.2.1 c.2.2.2.2.2.2.1 c.2.2.2.2.2.2.2.1 c.2.2.2.2.2.2.2.2.1 c.2.2.2.2.2.2.2.2.2.1 c.2.2.2.2.2.2.2.2.2.2.1 c.2.2.2.2.2.2.2.2.2.2.2.1 c.2.2.2.2.2.2.2.2.2.2.2.2.1 c.2.2.2.2.2.2.2.2.2.2.2.2.2.1 c.2.2.2.2.2.2.2.2.2.2.2.2.2.2.1 c.2.2.2.2.2.2.2.2.2.2.2.2.2.2.2 Z b4 m5 m6 hx6) vl_X6_97 yv_X0_evenOut ⟨Nat.le_of_ble_eq_true rfl, Nat.le_of_ble_eq_true rfl⟩ ⟨rfl, rfl⟩ ⟨Nat.zero_le _, Nat.zero_le _⟩ 2 0 rfl rfl rfl rfl rfl (Nat.le_of_ble_eq_true rfl) dX6_level_18 [(a 0), (a 1), (a 2), (a 3), (a 4), (a 5), (a 6), (a 7), (a 8), (a 9), (a 10), (a 11), (a 12), (a 13), (a 14), (a 15), (a 16), (a 17), (a 18), (a 19)] rfl rfl rfl ?_
  obtain ⟨rfl, rfl, rfl, rfl, rfl⟩ := si5 hF
  exact hret _ _ (vp_nar_int _) dX6_level_21
-- X6_undo
def f_X6_undo (c : CV) (s0 : CV) (s1 : CV) (k0 : Int32) (k1 : Int32) (g : Nat → SV) (nx : Nat) (sz : Int32) : Int32 × CV × CV × CV × Int32 × Int32 × Nat × Int32 :=
  (if sz = 0 then ((-2), c, s0, s1, k0, k1, nx, sz) else (pl7 (f_X1_moveLatestTo g nx sz c s0 s1 k0 k1) (fun (m2 : Nat) (b3 : Int32) (m4 : CV) (m5 : CV) (m6 : CV) (b7 : Int32) (b8 : Int32) => (b3, m4, m5, m6, b7, b8, m2, b3))))
abbrev rm_X6_undo : Room := { frames := 6, cells := 0, slots := 0, locals := 132 }
set_option maxHeartbeats 4000000 in
set_option maxRecDepth 100000 in
theorem c_X6_undo (l : Launch) (D : va_G) (cI cC cR : ClassId) (h0 h1 t0 t1 : Nat) (a b d ah : Nat → Nat) (c : CV) (s0 : CV) (s1 : CV) (k0 : Int32) (k1 : Int32) (g : Nat → SV) (nx : Nat) (sz : Int32) (ch : Nat → Int32) (len : Int32) (cur : Int32) (verb : Int32) (fi : Int32) (se : Int32) (hb_k0 : k0 = 0 ∨ k0 = 1) (hb_k1 : k1 = 0 ∨ k1 = 1) (hnx : nx < 5) (hb_g : ∀ i, ((g i).2.2.2.1 = 0 ∨ (g i).2.2.2.1 = 1) ∧ ((g i).2.2.2.2 = 0 ∨ (g i).2.2.2.2 = 1)) (r : Int32) (c' : CV) (s0' : CV) (s1' : CV) (k0' : Int32) (k1' : Int32) (nx' : Nat) (sz' : Int32) (hF : f_X6_undo c s0 s1 k0 k1 g nx sz = (r, c', s0', s1', k0', k1', nx', sz')) : MEq l yX6_undo cX6_undo 1 (some .int) rm_X6_undo D (TY cI cC cR) [.ref h0] (wj [[(h0, .inr (6, [.ref h1, .ref (ah 0), .ref t0]))], [(h1, .inr (3, [.ref (a 0), .ref (b 0), .ref (d 0), .int k0, .int k1]))], bC cI a c, bC cI b s0, bC cI d s1, bH cI cR ah g nx sz, wX4 cC t0 t1 ch len cur verb fi se]) (wj [[(h0, .inr (6, [.ref h1, .ref (ah 0), .ref t0]))], [(h1, .inr (3, [.ref (a 0), .ref (b 0), .ref (d 0), .int k0', .int k1']))], bC cI a c', bC cI b s0', bC cI d s1', bH cI cR ah g nx' sz', wX4 cC t0 t1 ch len cur verb fi se]) (some (.int r)) := by
  refine me_e pn_X6 (Nat.le_of_ble_eq_true rfl) rfl (fun Γ X E hret => ?_)
  unfold f_X6_undo at hF
  refine kw_aload_n X dX6_undo_0 rfl 0 rfl ?_
  refine kb_get X inX6 0 0 rfl rfl rfl 1 (by decide) rfl gw_204 rfl dX6_undo_1 ?_
  refine kb_getN X inX1 5 0 rfl rfl rfl 2 (by decide) rfl nw_24 rfl dX6_undo_4 ?_
  refine kw_if_ne X 13 dX6_undo_7 (by decide) (fun q1 => ?_) (fun q1 => ?_)
  · replace hF := (if_neg q1).symm.trans hF
    refine kw_aload_n X dX6_undo_13 rfl 0 rfl ?_
    refine kb_get X inX6 0 0 rfl rfl rfl 1 (by decide) rfl gw_204 rfl dX6_undo_14 ?_
    refine kw_aload_n X dX6_undo_17 rfl 0 rfl ?_
    refine kb_get X inX6 0 0 rfl rfl rfl 0 (by decide) rfl gw_203 rfl dX6_undo_18 ?_
    obtain ⟨m2, b3, m4, m5, m6, b7, b8, hx8, hF⟩ := pl7_ex hF
    refine kb_mev X (As := [.ref h1]) (st := []) (bs' := [[(h0, .inr (6, [.ref h1, .ref (ah 0), .ref t0]))], [(h1, .inr (3, [.ref (a 0), .ref (b 0), .ref (d 0), .int b7, .int b8]))], bC cI a m4, bC cI b m5, bC cI d m6, bH cI cR ah g m2 b3, wX4 cC t0 t1 ch len cur verb fi se]) E (c_X1_moveLatestTo l D cI cC cR ah h1 a b d g nx sz c s0 s1 k0 k1 hnx hb_g m2 b3 m4 m5 m6 b7 b8 hx8) vl_X6_123 yv_X1_moveLatestTo ⟨Nat.le_of_ble_eq_true rfl, Nat.le_of_ble_eq_true rfl⟩ ⟨rfl, rfl⟩ ⟨Nat.zero_le _, Nat.zero_le _⟩ 5 0 rfl rfl rfl [5, 1, 2, 3, 4] rfl rfl rfl rfl (Nat.le_of_ble_eq_true rfl) dX6_undo_21 (wa_c bH_same (wa_c c1_same (wa_c bC_same (wa_c bC_same (wa_c bC_same rfl))))) rfl ?_
    refine kw_aload_n X dX6_undo_24 rfl 0 rfl ?_
    refine kb_get X inX6 0 0 rfl rfl rfl 1 (by decide) rfl gw_204 rfl dX6_undo_25 ?_
    refine kb_getN X inX1 5 0 rfl rfl rfl 2 (by decide) rfl nw_24 rfl dX6_undo_28 ?_
    obtain ⟨rfl, rfl, rfl, rfl, rfl, rfl, rfl, rfl⟩ := ti8 hF
    exact hret _ _ (vp_nar_int _) dX6_undo_31
  · replace hF := (if_pos q1).symm.trans hF
    refine kw_bipush X dX6_undo_10 cb_m2 ?_
    obtain ⟨rfl, rfl, rfl, rfl, rfl, rfl, rfl, rfl⟩ := ti8 hF
    exact hret _ _ (vp_nar_int _) dX6_undo_12
-- X6_count
def f_X6_count (Z : Nat) (c : CV) (k0 : Int32) (k1 : Int32) (sz : Int32) (len : Int32) (p1 : Int32) : Option (Int32) :=
  (if p1 = 0 then (some c.2.2.2.2.2.2.2.2.2.2.1) else (if p1 = 1 then (some c.2.2.2.2.1) else (if p1 = 2 then (ob1 (f_X5_numberOfKind Z c.2.2.2.1 0) (fun (b4 : Int32) => (some b4))) else (if p1 = 3 then (ob1 (f_X5_numberOfKind Z c.2.2.2.1 1) (fun (b6 : Int32) => (some b6))) else (if p1 = 4 then (ob1 (f_X5_numberOfKind Z c.2.2.2.1 2) (fun (b8 : Int32) => (some b8))) else (if p1 = 5 then (ob1 (f_X5_numberOfKind Z c.2.2.2.1 3) (fun (b10 : Int32) => (some b10))) else (if p1 = 6 then (ob1 (f_X5_numberOfKind Z c.2.2.2.1 4) (fun (b12 : Int32) => (some b12))) else (if p1 = 7 then (ob1 (f_X5_numberBroken Z c.1 c.2.1 c.2.2.2.2.1) (fun (b14 : Int32) => (some b14))) else (if p1 = 8 then (some c.2.2.2.2.2.2.2.2.2.2.2.1) else (if p1 = 9 then (ob1 (f_X2_sum Z 12 c.2.2.2.2.2.2.1) (fun (b17 : Int32) => (some b17))) else (if p1 = 10 then (some c.2.2.2.2.2.2.2.2.2.2.2.2.1) else (if p1 = 11 then (ob1 (f_X2_sum Z 12 c.2.2.2.2.2.2.2.2.2.1) (fun (b20 : Int32) => (some b20))) else (if p1 = 12 then (some c.2.2.2.2.2.2.2.2.2.2.2.2.2.1) else (if p1 = 13 then (some c.2.2.2.2.2.2.2.2.2.2.2.2.2.2.1) else (if p1 = 14 then (some c.2.2.2.2.2.2.2.2.2.2.2.2.2.2.2) else (if p1 = 15 then (some (f_X3_numberKept k0 k1)) else (if p1 = 16 then (some sz) else (if p1 = 17 then (some len) else (some (-1))))))))))))))))))))
abbrev rm_X6_count : Room := { frames := 3, cells := 0, slots := 0, locals := 65 }
set_option maxHeartbeats 4000000 in
set_option maxRecDepth 100000 in
theorem c_X6_count (l : Launch) (D : va_G) (cI cC cR : ClassId) (h0 h1 t0 t1 : Nat) (a b d ah : Nat → Nat) (c : CV) (s0 : CV) (s1 : CV) (k0 : Int32) (k1 : Int32) (g : Nat → SV) (nx : Nat) (sz : Int32) (ch : Nat → Int32) (len : Int32) (cur : Int32) (verb : Int32) (fi : Int32) (se : Int32) (p1 : Int32) (hb_k0 : k0 = 0 ∨ k0 = 1) (hb_k1 : k1 = 0 ∨ k1 = 1) (hnx : nx < 5) (hb_g : ∀ i, ((g i).2.2.2.1 = 0 ∨ (g i).2.2.2.1 = 1) ∧ ((g i).2.2.2.2 = 0 ∨ (g i).2.2.2.2 = 1)) (Z : Nat) (r : Int32) (hF : f_X6_count Z c k0 k1 sz len p1 = some r) : MPi l yX6_count cX6_count 4 (some .int) rm_X6_count D (TY cI cC cR) [.ref h0, .int p1] (wj [[(h0, .inr (6, [.ref h1, .ref (ah 0), .ref t0]))], [(h1, .inr (3, [.ref (a 0), .ref (b 0), .ref (d 0), .int k0, .int k1]))], bC cI a c, bC cI b s0, bC cI d s1, bH cI cR ah g nx sz, wX4 cC t0 t1 ch len cur verb fi se]) (.int r) := by
  refine me_p pn_X6 (Nat.le_of_ble_eq_true rfl) rfl (fun Γ X hret => ?_)
  unfold f_X6_count at hF
  refine kw_aload_n X dX6_count_0 rfl 0 rfl ?_
  refine kb_get X inX6 0 0 rfl rfl rfl 0 (by decide) rfl gw_203 rfl dX6_count_1 ?_
  refine kb_getN X inX3 1 0 rfl rfl rfl 0 (by decide) rfl nw_22 rfl dX6_count_4 ?_
  refine kw_astore_n (lo' := [(0, .ref h0), (1, .int p1), (2, .ref (a 0))]) X dX6_count_7 rfl (by decide) [1, 2, 0] rfl ?_
  refine kw_aload_n X dX6_count_8 rfl 2 rfl ?_
  refine kb_getN X inX0 2 0 rfl rfl rfl 0 (by decide) rfl nw_10 rfl dX6_count_9 ?_
  refine kw_astore_n (lo' := [(0, .ref h0), (1, .int p1), (2, .ref (a 0)), (3, .ref (a 1))]) X dX6_count_12 rfl (by decide) [1, 2, 3, 0] rfl ?_
  refine kw_iload_n X dX6_count_13 rfl 1 rfl ?_
  by_cases q1 : p1 = 0
  · replace hF := (if_pos q1).symm.trans hF
    refine kw_tblIn X 100 dX6_count_14 (by rw [q1]; decide) (by rw [q1]; decide) (by rw [q1]; try rfl) (by decide) ?_
    refine kw_aload_n X dX6_count_100 rfl 2 rfl ?_
    refine kb_getN X inX0 2 0 rfl rfl rfl 6 (by decide) rfl nw_16 rfl dX6_count_101 ?_
    obtain rfl := si1 hF
    exact hret _ _ _ (vp_nar_int _) dX6_count_104
  · replace hF := (if_neg q1).symm.trans hF
    by_cases q2 : p1 = 1
    · replace hF := (if_pos q2).symm.trans hF
      refine kw_tblIn X 105 dX6_count_14 (by rw [q2]; decide) (by rw [q2]; decide) (by rw [q2]; try rfl) (by decide) ?_
      refine kw_aload_n X dX6_count_105 rfl 3 rfl ?_
      refine kb_getN X inX5 2 1 rfl rfl rfl 4 (by decide) rfl nw_9 rfl dX6_count_106 ?_
      obtain rfl := si1 hF
      exact hret _ _ _ (vp_nar_int _) dX6_count_109
    · replace hF := (if_neg q2).symm.trans hF
      by_cases q3 : p1 = 2
      · replace hF := (if_pos q3).symm.trans hF
        refine kw_tblIn X 110 dX6_count_14 (by rw [q3]; decide) (by rw [q3]; decide) (by rw [q3]; try rfl) (by decide) ?_
        refine kw_aload_n X dX6_count_110 rfl 3 rfl ?_
        refine kw_iconst X dX6_count_111 ci_0 ?_
        obtain ⟨b4, hx4, hF⟩ := ob1_ex hF
        refine kb_cp X (r := .int b4) (As := [.int 0]) (st := []) (c_X5_numberOfKind l D cI cC cR (a 1) (a 2) (a 3) (a 4) (a 5) (a 6) (a 7) (a 8) (a 9) c.1 c.2.1 c.2.2.1 c.2.2.2.1 c.2.2.2.2.1 0 Z b4 hx4) vl_X6_167 yv_X5_numberOfKind ⟨Nat.le_of_ble_eq_true rfl, Nat.le_of_ble_eq_true rfl⟩ ⟨rfl, rfl⟩ ⟨Nat.zero_le _, Nat.zero_le _⟩ 2 1 rfl rfl rfl [1, 2, 3, 4, 5, 6, 7, 8, 9] rfl rfl rfl rfl (Nat.le_of_ble_eq_true rfl) dX6_count_112 ?_
        obtain rfl := si1 hF
        exact hret _ _ _ (vp_nar_int _) dX6_count_115
      · replace hF := (if_neg q3).symm.trans hF
        by_cases q5 : p1 = 3
        · replace hF := (if_pos q5).symm.trans hF
          refine kw_tblIn X 116 dX6_count_14 (by rw [q5]; decide) (by rw [q5]; decide) (by rw [q5]; try rfl) (by decide) ?_
          refine kw_aload_n X dX6_count_116 rfl 3 rfl ?_
          refine kw_iconst X dX6_count_117 ci_1 ?_
          obtain ⟨b6, hx6, hF⟩ := ob1_ex hF
          refine kb_cp X (r := .int b6) (As := [.int 1]) (st := []) (c_X5_numberOfKind l D cI cC cR (a 1) (a 2) (a 3) (a 4) (a 5) (a 6) (a 7) (a 8) (a 9) c.1 c.2.1 c.2.2.1 c.2.2.2.1 c.2.2.2.2.1 1 Z b6 hx6) vl_X6_167 yv_X5_numberOfKind ⟨Nat.le_of_ble_eq_true rfl, Nat.le_of_ble_eq_true rfl⟩ ⟨rfl, rfl⟩ ⟨Nat.zero_le _, Nat.zero_le _⟩ 2 1 rfl rfl rfl [1, 2, 3, 4, 5, 6, 7, 8, 9] rfl rfl rfl rfl (Nat.le_of_ble_eq_true rfl) dX6_count_118 ?_
          obtain rfl := si1 hF
          exact hret _ _ _ (vp_nar_int _) dX6_count_121
        · replace hF := (if_neg q5).symm.trans hF
          by_cases q7 : p1 = 4
          · replace hF := (if_pos q7).symm.trans hF
            refine kw_tblIn X 122 dX6_count_14 (by rw [q7]; decide) (by rw [q7]; decide) (by rw [q7]; try rfl) (by decide) ?_
            refine kw_aload_n X dX6_count_122 rfl 3 rfl ?_
            refine kw_iconst X dX6_count_123 ci_2 ?_
            obtain ⟨b8, hx8, hF⟩ := ob1_ex hF
            refine kb_cp X (r := .int b8) (As := [.int 2]) (st := []) (c_X5_numberOfKind l D cI cC cR (a 1) (a 2) (a 3) (a 4) (a 5) (a 6) (a 7) (a 8) (a 9) c.1 c.2.1 c.2.2.1 c.2.2.2.1 c.2.2.2.2.1 2 Z b8 hx8) vl_X6_167 yv_X5_numberOfKind ⟨Nat.le_of_ble_eq_true rfl, Nat.le_of_ble_eq_true rfl⟩ ⟨rfl, rfl⟩ ⟨Nat.zero_le _, Nat.zero_le _⟩ 2 1 rfl rfl rfl [1, 2, 3, 4, 5, 6, 7, 8, 9] rfl rfl rfl rfl (Nat.le_of_ble_eq_true rfl) dX6_count_124 ?_
            obtain rfl := si1 hF
            exact hret _ _ _ (vp_nar_int _) dX6_count_127
          · replace hF := (if_neg q7).symm.trans hF
            by_cases q9 : p1 = 5
            · replace hF := (if_pos q9).symm.trans hF
              refine kw_tblIn X 128 dX6_count_14 (by rw [q9]; decide) (by rw [q9]; decide) (by rw [q9]; try rfl) (by decide) ?_
              refine kw_aload_n X dX6_count_128 rfl 3 rfl ?_
              refine kw_iconst X dX6_count_129 ci_3 ?_
              obtain ⟨b10, hx10, hF⟩ := ob1_ex hF
              refine kb_cp X (r := .int b10) (As := [.int 3]) (st := []) (c_X5_numberOfKind l D cI cC cR (a 1) (a 2) (a 3) (a 4) (a 5) (a 6) (a 7) (a 8) (a 9) c.1 c.2.1 c.2.2.1 c.2.2.2.1 c.2.2.2.2.1 3 Z b10 hx10) vl_X6_167 yv_X5_numberOfKind ⟨Nat.le_of_ble_eq_true rfl, Nat.le_of_ble_eq_true rfl⟩ ⟨rfl, rfl⟩ ⟨Nat.zero_le _, Nat.zero_le _⟩ 2 1 rfl rfl rfl [1, 2, 3, 4, 5, 6, 7, 8, 9] rfl rfl rfl rfl (Nat.le_of_ble_eq_true rfl) dX6_count_130 ?_
              obtain rfl := si1 hF
              exact hret _ _ _ (vp_nar_int _) dX6_count_133
            · replace hF := (if_neg q9).symm.trans hF
              by_cases q11 : p1 = 6
              · replace hF := (if_pos q11).symm.trans hF
                refine kw_tblIn X 134 dX6_count_14 (by rw [q11]; decide) (by rw [q11]; decide) (by rw [q11]; try rfl) (by decide) ?_
                refine kw_aload_n X dX6_count_134 rfl 3 rfl ?_
                refine kw_iconst X dX6_count_135 ci_4 ?_
                obtain ⟨b12, hx12, hF⟩ := ob1_ex hF
                refine kb_cp X (r := .int b12) (As := [.int 4]) (st := []) (c_X5_numberOfKind l D cI cC cR (a 1) (a 2) (a 3) (a 4) (a 5) (a 6) (a 7) (a 8) (a 9) c.1 c.2.1 c.2.2.1 c.2.2.2.1 c.2.2.2.2.1 4 Z b12 hx12) vl_X6_167 yv_X5_numberOfKind ⟨Nat.le_of_ble_eq_true rfl, Nat.le_of_ble_eq_true rfl⟩ ⟨rfl, rfl⟩ ⟨Nat.zero_le _, Nat.zero_le _⟩ 2 1 rfl rfl rfl [1, 2, 3, 4, 5, 6, 7, 8, 9] rfl rfl rfl rfl (Nat.le_of_ble_eq_true rfl) dX6_count_136 ?_
                obtain rfl := si1 hF
                exact hret _ _ _ (vp_nar_int _) dX6_count_139
              · replace hF := (if_neg q11).symm.trans hF
                by_cases q13 : p1 = 7
                · replace hF := (if_pos q13).symm.trans hF
                  refine kw_tblIn X 140 dX6_count_14 (by rw [q13]; decide) (by rw [q13]; decide) (by rw [q13]; try rfl) (by decide) ?_
                  refine kw_aload_n X dX6_count_140 rfl 3 rfl ?_
                  obtain ⟨b14, hx14, hF⟩ := ob1_ex hF
                  refine kb_cp X (r := .int b14) (As := []) (st := []) (c_X5_numberBroken l D cI cC cR (a 1) (a 2) (a 3) (a 4) (a 5) (a 6) (a 7) (a 8) (a 9) c.1 c.2.1 c.2.2.1 c.2.2.2.1 c.2.2.2.2.1 Z b14 hx14) vl_X6_170 yv_X5_numberBroken ⟨Nat.le_of_ble_eq_true rfl, Nat.le_of_ble_eq_true rfl⟩ ⟨rfl, rfl⟩ ⟨Nat.zero_le _, Nat.zero_le _⟩ 2 1 rfl rfl rfl [1, 2, 3, 4, 5, 6, 7, 8, 9] rfl rfl rfl rfl (Nat.le_of_ble_eq_true rfl) dX6_count_141 ?_
                  obtain rfl := si1 hF
                  exact hret _ _ _ (vp_nar_int _) dX6_count_144
                · replace hF := (if_neg q13).symm.trans hF
                  by_cases q15 : p1 = 8
                  · replace hF := (if_pos q15).symm.trans hF
                    refine kw_tblIn X 145 dX6_count_14 (by rw [q15]; decide) (by rw [q15]; decide) (by rw [q15]; try rfl) (by decide) ?_
                    refine kw_aload_n X dX6_count_145 rfl 2 rfl ?_
                    refine kb_getN X inX0 2 0 rfl rfl rfl 7 (by decide) rfl nw_17 rfl dX6_count_146 ?_
                    obtain rfl := si1 hF
                    exact hret _ _ _ (vp_nar_int _) dX6_count_149
                  · replace hF := (if_neg q15).symm.trans hF
                    by_cases q16 : p1 = 9
                    · replace hF := (if_pos q16).symm.trans hF
                      refine kw_tblIn X 150 dX6_count_14 (by rw [q16]; decide) (by rw [q16]; decide) (by rw [q16]; try rfl) (by decide) ?_
                      refine kw_aload_n X dX6_count_150 rfl 2 rfl ?_
                      refine kb_getN X inX0 2 0 rfl rfl rfl 2 (by decide) rfl nw_12 rfl dX6_count_151 ?_
                      obtain ⟨b17, hx17, hF⟩ := ob1_ex hF
                      refine kb_cp X (r := .int b17) (As := []) (st := []) (c_X2_sum l D cI cC cR (a 12) (a 13) 12 (by decide) c.2.2.2.2.2.2.1 Z b17 hx17) vl_X6_180 yv_X2_sum ⟨Nat.le_of_ble_eq_true rfl, Nat.le_of_ble_eq_true rfl⟩ ⟨rfl, rfl⟩ ⟨Nat.zero_le _, Nat.zero_le _⟩ 2 12 rfl rfl rfl [12, 13] rfl rfl rfl rfl (Nat.le_of_ble_eq_true rfl) dX6_count_154 ?_
                      obtain rfl := si1 hF
                      exact hret _ _ _ (vp_nar_int _) dX6_count_157
                    · replace hF := (if_neg q16).symm.trans hF
                      by_cases q18 : p1 = 10
                      · replace hF := (if_pos q18).symm.trans hF
                        refine kw_tblIn X 158 dX6_count_14 (by rw [q18]; decide) (by rw [q18]; decide) (by rw [q18]; try rfl) (by decide) ?_
                        refine kw_aload_n X dX6_count_158 rfl 2 rfl ?_
                        refine kb_getN X inX0 2 0 rfl rfl rfl 8 (by decide) rfl nw_18 rfl dX6_count_159 ?_
                        obtain rfl := si1 hF
                        exact hret _ _ _ (vp_nar_int _) dX6_count_162
                      · replace hF := (if_neg q18).symm.trans hF
                        by_cases q19 : p1 = 11
                        · replace hF := (if_pos q19).symm.trans hF
                          refine kw_tblIn X 163 dX6_count_14 (by rw [q19]; decide) (by rw [q19]; decide) (by rw [q19]; try rfl) (by decide) ?_
                          refine kw_aload_n X dX6_count_163 rfl 2 rfl ?_
                          refine kb_getN X inX0 2 0 rfl rfl rfl 5 (by decide) rfl nw_15 rfl dX6_count_164 ?_
                          obtain ⟨b20, hx20, hF⟩ := ob1_ex hF
                          refine kb_cp X (r := .int b20) (As := []) (st := []) (c_X2_sum l D cI cC cR (a 18) (a 19) 12 (by decide) c.2.2.2.2.2.2.2.2.2.1 Z b20 hx20) vl_X6_180 yv_X2_sum ⟨Nat.le_of_ble_eq_true rfl, Nat.le_of_ble_eq_true rfl⟩ ⟨rfl, rfl⟩ ⟨Nat.zero_le _, Nat.zero_le _⟩ 2 18 rfl rfl rfl [18, 19] rfl rfl rfl rfl (Nat.le_of_ble_eq_true rfl) dX6_count_167 ?_
                          obtain rfl := si1 hF
                          exact hret _ _ _ (vp_nar_int _) dX6_count_170
                        · replace hF := (if_neg q19).symm.trans hF
                          by_cases q21 : p1 = 12
                          · replace hF := (if_pos q21).symm.trans hF
                            refine kw_tblIn X 171 dX6_count_14 (by rw [q21]; decide) (by rw [q21]; decide) (by rw [q21]; try rfl) (by decide) ?_
                            refine kw_aload_n X dX6_count_171 rfl 2 rfl ?_
                            refine kb_getN X inX0 2 0 rfl rfl rfl 9 (by decide) rfl nw_19 rfl dX6_count_172 ?_
                            obtain rfl := si1 hF
                            exact hret _ _ _ (vp_nar_int _) dX6_count_175
                          · replace hF := (if_neg q21).symm.trans hF
                            by_cases q22 : p1 = 13
                            · replace hF := (if_pos q22).symm.trans hF
                              refine kw_tblIn X 176 dX6_count_14 (by rw [q22]; decide) (by rw [q22]; decide) (by rw [q22]; try rfl) (by decide) ?_
                              refine kw_aload_n X dX6_count_176 rfl 2 rfl ?_
                              refine kb_getN X inX0 2 0 rfl rfl rfl 10 (by decide) rfl nw_20 rfl dX6_count_177 ?_
                              obtain rfl := si1 hF
                              exact hret _ _ _ (vp_nar_int _) dX6_count_180
                            · replace hF := (if_neg q22).symm.trans hF
                              by_cases q23 : p1 = 14
                              · replace hF := (if_pos q23).symm.trans hF
                                refine kw_tblIn X 181 dX6_count_14 (by rw [q23]; decide) (by rw [q23]; decide) (by rw [q23]; try rfl) (by decide) ?_
                                refine kw_aload_n X dX6_count_181 rfl 2 rfl ?_
                                refine kb_getN X inX0 2 0 rfl rfl rfl 11 (by decide) rfl nw_21 rfl dX6_count_182 ?_
                                obtain rfl := si1 hF
                                exact hret _ _ _ (vp_nar_int _) dX6_count_185
                              · replace hF := (if_neg q23).symm.trans hF
                                by_cases q24 : p1 = 15
                                · replace hF := (if_pos q24).symm.trans hF
                                  refine kw_tblIn X 186 dX6_count_14 (by rw [q24]; decide) (by rw [q24]; decide) (by rw [q24]; try rfl) (by decide) ?_
                                  refine kw_aload_n X dX6_count_186 rfl 0 rfl ?_
                                  refine kb_get X inX6 0 0 rfl rfl rfl 0 (by decide) rfl gw_203 rfl dX6_count_187 ?_
                                  refine kb_mp X (r := .int (f_X3_numberKept k0 k1)) (As := []) (st := []) (c_X3_numberKept l D cI cC cR h1 a b d c s0 s1 k0 k1 (f_X3_numberKept k0 k1) rfl) vl_X6_200 yv_X3_numberKept ⟨Nat.le_of_ble_eq_true rfl, Nat.le_of_ble_eq_true rfl⟩ ⟨rfl, rfl⟩ ⟨Nat.zero_le _, Nat.zero_le _⟩ 1 0 rfl rfl rfl [1, 2, 3, 4] rfl rfl rfl rfl (Nat.le_of_ble_eq_true rfl) dX6_count_190 ?_
                                  obtain rfl := si1 hF
                                  exact hret _ _ _ (vp_nar_int _) dX6_count_193
                                · replace hF := (if_neg q24).symm.trans hF
                                  by_cases q25 : p1 = 16
                                  · replace hF := (if_pos q25).symm.trans hF
                                    refine kw_tblIn X 194 dX6_count_14 (by rw [q25]; decide) (by rw [q25]; decide) (by rw [q25]; try rfl) (by decide) ?_
                                    refine kw_aload_n X dX6_count_194 rfl 0 rfl ?_
                                    refine kb_get X inX6 0 0 rfl rfl rfl 1 (by decide) rfl gw_204 rfl dX6_count_195 ?_
                                    refine kb_getN X inX1 5 0 rfl rfl rfl 2 (by decide) rfl nw_24 rfl dX6_count_198 ?_
                                    obtain rfl := si1 hF
                                    exact hret _ _ _ (vp_nar_int _) dX6_count_201
                                  · replace hF := (if_neg q25).symm.trans hF
                                    by_cases q26 : p1 = 17
                                    · replace hF := (if_pos q26).symm.trans hF
                                      refine kw_tblIn X 202 dX6_count_14 (by rw [q26]; decide) (by rw [q26]; decide) (by rw [q26]; try rfl) (by decide) ?_
                                      refine kw_aload_n X dX6_count_202 rfl 0 rfl ?_
                                      refine kb_get X inX6 0 0 rfl rfl rfl 2 (by decide) rfl gw_205 rfl dX6_count_203 ?_
                                      refine kb_getN X inX4 6 0 rfl rfl rfl 1 (by decide) rfl nw_26 rfl dX6_count_206 ?_
                                      obtain rfl := si1 hF
                                      exact hret _ _ _ (vp_nar_int _) dX6_count_209
                                    · replace hF := (if_neg q26).symm.trans hF
                                      have n0 := ne_toInt q1 (n := 0) (by decide)
                                      have n1 := ne_toInt q2 (n := 1) (by decide)
                                      have n2 := ne_toInt q3 (n := 2) (by decide)
                                      have n3 := ne_toInt q5 (n := 3) (by decide)
                                      have n4 := ne_toInt q7 (n := 4) (by decide)
                                      have n5 := ne_toInt q9 (n := 5) (by decide)
                                      have n6 := ne_toInt q11 (n := 6) (by decide)
                                      have n7 := ne_toInt q13 (n := 7) (by decide)
                                      have n8 := ne_toInt q15 (n := 8) (by decide)
                                      have n9 := ne_toInt q16 (n := 9) (by decide)
                                      have n10 := ne_toInt q18 (n := 10) (by decide)
                                      have n11 := ne_toInt q19 (n := 11) (by decide)
                                      have n12 := ne_toInt q21 (n := 12) (by decide)
                                      have n13 := ne_toInt q22 (n := 13) (by decide)
                                      have n14 := ne_toInt q23 (n := 14) (by decide)
                                      have n15 := ne_toInt q24 (n := 15) (by decide)
                                      have n16 := ne_toInt q25 (n := 16) (by decide)
                                      have n17 := ne_toInt q26 (n := 17) (by decide)
                                      refine kw_tblOut X 210 dX6_count_14 (by omega) (by decide) ?_
                                      refine kw_iconst X dX6_count_210 ci_m1 ?_
                                      obtain rfl := si1 hF
                                      exact hret _ _ _ (vp_nar_int _) dX6_count_211
-- X6_umbrella
def f_X6_umbrella (c : CV) (p1 : Int32) (p2 : Int32) : Int32 :=
  (if (f_X6_outside p1 0 (c.2.2.2.2.1 - 1)) = 0 then (if p2 = 0 then (f_X6_kindOf (f_X2_at 60 c.1 p1)) else (if p2 = 1 then (f_X6_ownerOf (f_X2_at 60 c.1 p1)) else (if p2 = 2 then (f_X2_at 60 c.2.1 p1) else (if p2 = 3 then (if (f_X5_isBroken c.2.1 p1) = 0 then 0 else 1) else (if p2 = 4 then (f_X2_at 60 c.2.2.1 p1) else (-1)))))) else (-1))
abbrev rm_X6_umbrella : Room := { frames := 2, cells := 0, slots := 0, locals := 42 }
set_option maxHeartbeats 4000000 in
set_option maxRecDepth 100000 in
theorem c_X6_umbrella (l : Launch) (D : va_G) (cI cC cR : ClassId) (h0 h1 t0 t1 : Nat) (a b d ah : Nat → Nat) (c : CV) (s0 : CV) (s1 : CV) (k0 : Int32) (k1 : Int32) (g : Nat → SV) (nx : Nat) (sz : Int32) (ch : Nat → Int32) (len : Int32) (cur : Int32) (verb : Int32) (fi : Int32) (se : Int32) (p1 : Int32) (p2 : Int32) (hb_k0 : k0 = 0 ∨ k0 = 1) (hb_k1 : k1 = 0 ∨ k1 = 1) (hnx : nx < 5) (hb_g : ∀ i, ((g i).2.2.2.1 = 0 ∨ (g i).2.2.2.1 = 1) ∧ ((g i).2.2.2.2 = 0 ∨ (g i).2.2.2.2 = 1)) (r : Int32) (hF : f_X6_umbrella c p1 p2 = r) : MPi l yX6_umbrella cX6_umbrella 5 (some .int) rm_X6_umbrella D (TY cI cC cR) [.ref h0, .int p1, .int p2] (wj [[(h0, .inr (6, [.ref h1, .ref (ah 0), .ref t0]))], [(h1, .inr (3, [.ref (a 0), .ref (b 0), .ref (d 0), .int k0, .int k1]))], bC cI a c, bC cI b s0, bC cI d s1, bH cI cR ah g nx sz, wX4 cC t0 t1 ch len cur verb fi se]) (.int r) := by
  refine me_p pn_X6 (Nat.le_of_ble_eq_true rfl) rfl (fun Γ X hret => ?_)
  unfold f_X6_umbrella at hF
  refine kw_aload_n X dX6_umbrella_0 rfl 0 rfl ?_
  refine kb_get X inX6 0 0 rfl rfl rfl 0 (by decide) rfl gw_203 rfl dX6_umbrella_1 ?_
  refine kb_getN X inX3 1 0 rfl rfl rfl 0 (by decide) rfl nw_22 rfl dX6_umbrella_4 ?_
  refine kb_getN X inX0 2 0 rfl rfl rfl 0 (by decide) rfl nw_10 rfl dX6_umbrella_7 ?_
  refine kw_astore_n (lo' := [(0, .ref h0), (1, .int p1), (2, .int p2), (3, .ref (a 1))]) X dX6_umbrella_10 rfl (by decide) [1, 2, 3, 0] rfl ?_
  refine kw_iload_n X dX6_umbrella_11 rfl 1 rfl ?_
  refine kw_iconst X dX6_umbrella_12 ci_0 ?_
  refine kw_aload_n X dX6_umbrella_13 rfl 3 rfl ?_
  refine kb_getN X inX5 2 1 rfl rfl rfl 4 (by decide) rfl nw_9 rfl dX6_umbrella_14 ?_
  refine kw_iconst X dX6_umbrella_17 ci_1 ?_
  refine kw_isub X dX6_umbrella_18 ?_
  refine kw_sp X (r := .int (f_X6_outside p1 0 (c.2.2.2.2.1 - 1))) (As := [.int p1, .int 0, .int (c.2.2.2.2.1 - 1)]) (st := []) (c_X6_outside l D cI cC cR p1 0 (c.2.2.2.2.1 - 1) (f_X6_outside p1 0 (c.2.2.2.2.1 - 1)) rfl) vl_X6_101 yv_X6_outside ⟨Nat.le_of_ble_eq_true rfl, Nat.le_of_ble_eq_true rfl⟩ ⟨rfl, rfl⟩ ⟨Nat.zero_le _, Nat.zero_le _⟩ [] rfl rfl rfl rfl (Nat.le_of_ble_eq_true rfl) dX6_umbrella_19 ?_
  refine kw_if_eq X 27 dX6_umbrella_22 (by decide) (fun q1 => ?_) (fun q1 => ?_)
  · replace hF := (if_pos q1).symm.trans hF
    refine kw_aload_n X dX6_umbrella_27 rfl 3 rfl ?_
    refine kb_getN X inX5 2 1 rfl rfl rfl 0 (by decide) rfl nw_2 rfl dX6_umbrella_28 ?_
    refine kw_iload_n X dX6_umbrella_31 rfl 1 rfl ?_
    refine kb_cp X (r := .int (f_X2_at 60 c.1 p1)) (As := [.int p1]) (st := []) (c_X2_at l D cI cC cR (a 2) (a 3) 60 (by decide) c.1 p1 (f_X2_at 60 c.1 p1) rfl) vl_X6_206 yv_X2_at ⟨Nat.le_of_ble_eq_true rfl, Nat.le_of_ble_eq_true rfl⟩ ⟨rfl, rfl⟩ ⟨Nat.zero_le _, Nat.zero_le _⟩ 2 2 rfl rfl rfl [2, 3] rfl rfl rfl rfl (Nat.le_of_ble_eq_true rfl) dX6_umbrella_32 ?_
    refine kw_istore (lo' := [(0, .ref h0), (1, .int p1), (2, .int p2), (3, .ref (a 1)), (4, .int (f_X2_at 60 c.1 p1))]) X dX6_umbrella_35 (by decide) [1, 2, 3, 4, 0] rfl ?_
    refine kw_iload_n X dX6_umbrella_37 rfl 2 rfl ?_
    by_cases q2 : p2 = 0
    · replace hF := (if_pos q2).symm.trans hF
      refine kw_tblIn X 72 dX6_umbrella_38 (by rw [q2]; decide) (by rw [q2]; decide) (by rw [q2]; try rfl) (by decide) ?_
      refine kw_iload X dX6_umbrella_72 4 rfl ?_
      refine kw_sp X (r := .int (f_X6_kindOf (f_X2_at 60 c.1 p1))) (As := [.int (f_X2_at 60 c.1 p1)]) (st := []) (c_X6_kindOf l D cI cC cR (f_X2_at 60 c.1 p1) (f_X6_kindOf (f_X2_at 60 c.1 p1)) rfl) vl_X6_209 yv_X6_kindOf ⟨Nat.le_of_ble_eq_true rfl, Nat.le_of_ble_eq_true rfl⟩ ⟨rfl, rfl⟩ ⟨Nat.zero_le _, Nat.zero_le _⟩ [] rfl rfl rfl rfl (Nat.le_of_ble_eq_true rfl) dX6_umbrella_74 ?_
      obtain rfl := ti1 hF
      exact hret _ _ _ (vp_nar_int _) dX6_umbrella_77
    · replace hF := (if_neg q2).symm.trans hF
      by_cases q3 : p2 = 1
      · replace hF := (if_pos q3).symm.trans hF
        refine kw_tblIn X 78 dX6_umbrella_38 (by rw [q3]; decide) (by rw [q3]; decide) (by rw [q3]; try rfl) (by decide) ?_
        refine kw_iload X dX6_umbrella_78 4 rfl ?_
        refine kw_sp X (r := .int (f_X6_ownerOf (f_X2_at 60 c.1 p1))) (As := [.int (f_X2_at 60 c.1 p1)]) (st := []) (c_X6_ownerOf l D cI cC cR (f_X2_at 60 c.1 p1) (f_X6_ownerOf (f_X2_at 60 c.1 p1)) rfl) vl_X6_212 yv_X6_ownerOf ⟨Nat.le_of_ble_eq_true rfl, Nat.le_of_ble_eq_true rfl⟩ ⟨rfl, rfl⟩ ⟨Nat.zero_le _, Nat.zero_le _⟩ [] rfl rfl rfl rfl (Nat.le_of_ble_eq_true rfl) dX6_umbrella_80 ?_
        obtain rfl := ti1 hF
        exact hret _ _ _ (vp_nar_int _) dX6_umbrella_83
      · replace hF := (if_neg q3).symm.trans hF
        by_cases q4 : p2 = 2
        · replace hF := (if_pos q4).symm.trans hF
          refine kw_tblIn X 84 dX6_umbrella_38 (by rw [q4]; decide) (by rw [q4]; decide) (by rw [q4]; try rfl) (by decide) ?_
          refine kw_aload_n X dX6_umbrella_84 rfl 3 rfl ?_
          refine kb_getN X inX5 2 1 rfl rfl rfl 1 (by decide) rfl nw_5 rfl dX6_umbrella_85 ?_
          refine kw_iload_n X dX6_umbrella_88 rfl 1 rfl ?_
          refine kb_cp X (r := .int (f_X2_at 60 c.2.1 p1)) (As := [.int p1]) (st := []) (c_X2_at l D cI cC cR (a 4) (a 5) 60 (by decide) c.2.1 p1 (f_X2_at 60 c.2.1 p1) rfl) vl_X6_206 yv_X2_at ⟨Nat.le_of_ble_eq_true rfl, Nat.le_of_ble_eq_true rfl⟩ ⟨rfl, rfl⟩ ⟨Nat.zero_le _, Nat.zero_le _⟩ 2 4 rfl rfl rfl [4, 5] rfl rfl rfl rfl (Nat.le_of_ble_eq_true rfl) dX6_umbrella_89 ?_
          obtain rfl := ti1 hF
          exact hret _ _ _ (vp_nar_int _) dX6_umbrella_92
        · replace hF := (if_neg q4).symm.trans hF
          by_cases q5 : p2 = 3
          · replace hF := (if_pos q5).symm.trans hF
            refine kw_tblIn X 93 dX6_umbrella_38 (by rw [q5]; decide) (by rw [q5]; decide) (by rw [q5]; try rfl) (by decide) ?_
            refine kw_aload_n X dX6_umbrella_93 rfl 3 rfl ?_
            refine kw_iload_n X dX6_umbrella_94 rfl 1 rfl ?_
            refine kb_cp X (r := .int (f_X5_isBroken c.2.1 p1)) (As := [.int p1]) (st := []) (c_X5_isBroken l D cI cC cR (a 1) (a 2) (a 3) (a 4) (a 5) (a 6) (a 7) (a 8) (a 9) c.1 c.2.1 c.2.2.1 c.2.2.2.1 c.2.2.2.2.1 p1 (f_X5_isBroken c.2.1 p1) rfl) vl_X6_218 yv_X5_isBroken ⟨Nat.le_of_ble_eq_true rfl, Nat.le_of_ble_eq_true rfl⟩ ⟨rfl, rfl⟩ ⟨Nat.zero_le _, Nat.zero_le _⟩ 2 1 rfl rfl rfl [1, 2, 3, 4, 5, 6, 7, 8, 9] rfl rfl rfl rfl (Nat.le_of_ble_eq_true rfl) dX6_umbrella_95 ?_
            refine kw_if_eq X 105 dX6_umbrella_98 (by decide) (fun q6 => ?_) (fun q6 => ?_)
            · replace hF := (if_pos q6).symm.trans hF
              refine kw_iconst X dX6_umbrella_105 ci_0 ?_
              obtain rfl := ti1 hF
              exact hret _ _ _ (vp_nar_int _) dX6_umbrella_106
            · replace hF := (if_neg q6).symm.trans hF
              refine kw_iconst X dX6_umbrella_101 ci_1 ?_
              refine kw_goto X 106 dX6_umbrella_102 (by decide) ?_
              obtain rfl := ti1 hF
              exact hret _ _ _ (vp_nar_int _) dX6_umbrella_106
          · replace hF := (if_neg q5).symm.trans hF
            by_cases q7 : p2 = 4
            · replace hF := (if_pos q7).symm.trans hF
              refine kw_tblIn X 107 dX6_umbrella_38 (by rw [q7]; decide) (by rw [q7]; decide) (by rw [q7]; try rfl) (by decide) ?_
              refine kw_aload_n X dX6_umbrella_107 rfl 3 rfl ?_
              refine kb_getN X inX5 2 1 rfl rfl rfl 2 (by decide) rfl nw_7 rfl dX6_umbrella_108 ?_
              refine kw_iload_n X dX6_umbrella_111 rfl 1 rfl ?_
              refine kb_cp X (r := .int (f_X2_at 60 c.2.2.1 p1)) (As := [.int p1]) (st := []) (c_X2_at l D cI cC cR (a 6) (a 7) 60 (by decide) c.2.2.1 p1 (f_X2_at 60 c.2.2.1 p1) rfl) vl_X6_206 yv_X2_at ⟨Nat.le_of_ble_eq_true rfl, Nat.le_of_ble_eq_true rfl⟩ ⟨rfl, rfl⟩ ⟨Nat.zero_le _, Nat.zero_le _⟩ 2 6 rfl rfl rfl [6, 7] rfl rfl rfl rfl (Nat.le_of_ble_eq_true rfl) dX6_umbrella_112 ?_
              obtain rfl := ti1 hF
              exact hret _ _ _ (vp_nar_int _) dX6_umbrella_115
            · replace hF := (if_neg q7).symm.trans hF
              have n0 := ne_toInt q2 (n := 0) (by decide)
              have n1 := ne_toInt q3 (n := 1) (by decide)
              have n2 := ne_toInt q4 (n := 2) (by decide)
              have n3 := ne_toInt q5 (n := 3) (by decide)
              have n4 := ne_toInt q7 (n := 4) (by decide)
              refine kw_tblOut X 116 dX6_umbrella_38 (by omega) (by decide) ?_
              refine kw_iconst X dX6_umbrella_116 ci_m1 ?_
              obtain rfl := ti1 hF
              exact hret _ _ _ (vp_nar_int _) dX6_umbrella_117
  · replace hF := (if_neg q1).symm.trans hF
    refine kw_iconst X dX6_umbrella_25 ci_m1 ?_
    obtain rfl := ti1 hF
    exact hret _ _ _ (vp_nar_int _) dX6_umbrella_26
-- X6_stand
def f_X6_stand (Z : Nat) (c : CV) (p1 : Int32) (p2 : Int32) : Option (Int32) :=
  (if (f_X6_outside p1 0 7) = 0 then (if p2 = 0 then (some (f_X2_at 8 c.2.2.2.2.2.1 p1)) else (if p2 = 1 then (some (f_X5_numberAt c.2.2.2.1 p1)) else (if p2 = 2 then (ob1 (f_X5_brokenAt Z c.1 c.2.1 c.2.2.2.2.1 p1) (fun (b5 : Int32) => (some b5))) else (if p2 = 3 then (ob1 (f_X5_bestAt Z c.1 c.2.1 c.2.2.2.2.1 p1) (fun (b7 : Int32) => (some b7))) else (if p2 = 4 then (ob1 (f_X5_worstAt Z c.1 c.2.1 c.2.2.2.2.1 p1) (fun (b9 : Int32) => (some b9))) else (if p2 = 5 then (ob1 (f_X5_meanWearAt Z c.1 c.2.1 c.2.2.2.1 c.2.2.2.2.1 p1) (fun (b11 : Int32) => (some b11))) else (some (-1)))))))) else (some (-1)))
abbrev rm_X6_stand : Room := { frames := 3, cells := 0, slots := 0, locals := 68 }
set_option maxHeartbeats 4000000 in
set_option maxRecDepth 100000 in
theorem c_X6_stand (l : Launch) (D : va_G) (cI cC cR : ClassId) (h0 h1 t0 t1 : Nat) (a b d ah : Nat → Nat) (c : CV) (s0 : CV) (s1 : CV) (k0 : Int32) (k1 : Int32) (g : Nat → SV) (nx : Nat) (sz : Int32) (ch : Nat → Int32) (len : Int32) (cur : Int32) (verb : Int32) (fi : Int32) (se : Int32) (p1 : Int32) (p2 : Int32) (hb_k0 : k0 = 0 ∨ k0 = 1) (hb_k1 : k1 = 0 ∨ k1 = 1) (hnx : nx < 5) (hb_g : ∀ i, ((g i).2.2.2.1 = 0 ∨ (g i).2.2.2.1 = 1) ∧ ((g i).2.2.2.2 = 0 ∨ (g i).2.2.2.2 = 1)) (Z : Nat) (r : Int32) (hF : f_X6_stand Z c p1 p2 = some r) : MPi l yX6_stand cX6_stand 4 (some .int) rm_X6_stand D (TY cI cC cR) [.ref h0, .int p1, .int p2] (wj [[(h0, .inr (6, [.ref h1, .ref (ah 0), .ref t0]))], [(h1, .inr (3, [.ref (a 0), .ref (b 0), .ref (d 0), .int k0, .int k1]))], bC cI a c, bC cI b s0, bC cI d s1, bH cI cR ah g nx sz, wX4 cC t0 t1 ch len cur verb fi se]) (.int r) := by
  refine me_p pn_X6 (Nat.le_of_ble_eq_true rfl) rfl (fun Γ X hret => ?_)
  unfold f_X6_stand at hF
  refine kw_iload_n X dX6_stand_0 rfl 1 rfl ?_
  refine kw_iconst X dX6_stand_1 ci_0 ?_
  refine kw_bipush X dX6_stand_2 cb_7 ?_
  refine kw_sp X (r := .int (f_X6_outside p1 0 7)) (As := [.int p1, .int 0, .int 7]) (st := []) (c_X6_outside l D cI cC cR p1 0 7 (f_X6_outside p1 0 7) rfl) vl_X6_101 yv_X6_outside ⟨Nat.le_of_ble_eq_true rfl, Nat.le_of_ble_eq_true rfl⟩ ⟨rfl, rfl⟩ ⟨Nat.zero_le _, Nat.zero_le _⟩ [] rfl rfl rfl rfl (Nat.le_of_ble_eq_true rfl) dX6_stand_4 ?_
  refine kw_if_eq X 12 dX6_stand_7 (by decide) (fun q1 => ?_) (fun q1 => ?_)
  · replace hF := (if_pos q1).symm.trans hF
    refine kw_aload_n X dX6_stand_12 rfl 0 rfl ?_
    refine kb_get X inX6 0 0 rfl rfl rfl 0 (by decide) rfl gw_203 rfl dX6_stand_13 ?_
    refine kb_getN X inX3 1 0 rfl rfl rfl 0 (by decide) rfl nw_22 rfl dX6_stand_16 ?_
    refine kb_getN X inX0 2 0 rfl rfl rfl 0 (by decide) rfl nw_10 rfl dX6_stand_19 ?_
    refine kw_astore_n (lo' := [(0, .ref h0), (1, .int p1), (2, .int p2), (3, .ref (a 1))]) X dX6_stand_22 rfl (by decide) [1, 2, 3, 0] rfl ?_
    refine kw_iload_n X dX6_stand_23 rfl 2 rfl ?_
    by_cases q2 : p2 = 0
    · replace hF := (if_pos q2).symm.trans hF
      refine kw_tblIn X 64 dX6_stand_24 (by rw [q2]; decide) (by rw [q2]; decide) (by rw [q2]; try rfl) (by decide) ?_
      refine kw_aload_n X dX6_stand_64 rfl 0 rfl ?_
      refine kb_get X inX6 0 0 rfl rfl rfl 0 (by decide) rfl gw_203 rfl dX6_stand_65 ?_
      refine kb_getN X inX3 1 0 rfl rfl rfl 0 (by decide) rfl nw_22 rfl dX6_stand_68 ?_
      refine kb_getN X inX0 2 0 rfl rfl rfl 1 (by decide) rfl nw_11 rfl dX6_stand_71 ?_
      refine kw_iload_n X dX6_stand_74 rfl 1 rfl ?_
      refine kb_cp X (r := .int (f_X2_at 8 c.2.2.2.2.2.1 p1)) (As := [.int p1]) (st := []) (c_X2_at l D cI cC cR (a 10) (a 11) 8 (by decide) c.2.2.2.2.2.1 p1 (f_X2_at 8 c.2.2.2.2.2.1 p1) rfl) vl_X6_206 yv_X2_at ⟨Nat.le_of_ble_eq_true rfl, Nat.le_of_ble_eq_true rfl⟩ ⟨rfl, rfl⟩ ⟨Nat.zero_le _, Nat.zero_le _⟩ 2 10 rfl rfl rfl [10, 11] rfl rfl rfl rfl (Nat.le_of_ble_eq_true rfl) dX6_stand_75 ?_
      obtain rfl := si1 hF
      exact hret _ _ _ (vp_nar_int _) dX6_stand_78
    · replace hF := (if_neg q2).symm.trans hF
      by_cases q3 : p2 = 1
      · replace hF := (if_pos q3).symm.trans hF
        refine kw_tblIn X 79 dX6_stand_24 (by rw [q3]; decide) (by rw [q3]; decide) (by rw [q3]; try rfl) (by decide) ?_
        refine kw_aload_n X dX6_stand_79 rfl 3 rfl ?_
        refine kw_iload_n X dX6_stand_80 rfl 1 rfl ?_
        refine kb_cp X (r := .int (f_X5_numberAt c.2.2.2.1 p1)) (As := [.int p1]) (st := []) (c_X5_numberAt l D cI cC cR (a 1) (a 2) (a 3) (a 4) (a 5) (a 6) (a 7) (a 8) (a 9) c.1 c.2.1 c.2.2.1 c.2.2.2.1 c.2.2.2.2.1 p1 (f_X5_numberAt c.2.2.2.1 p1) rfl) vl_X6_227 yv_X5_numberAt ⟨Nat.le_of_ble_eq_true rfl, Nat.le_of_ble_eq_true rfl⟩ ⟨rfl, rfl⟩ ⟨Nat.zero_le _, Nat.zero_le _⟩ 2 1 rfl rfl rfl [1, 2, 3, 4, 5, 6, 7, 8, 9] rfl rfl rfl rfl (Nat.le_of_ble_eq_true rfl) dX6_stand_81 ?_
        obtain rfl := si1 hF
        exact hret _ _ _ (vp_nar_int _) dX6_stand_84
      · replace hF := (if_neg q3).symm.trans hF
        by_cases q4 : p2 = 2
        · replace hF := (if_pos q4).symm.trans hF
          refine kw_tblIn X 85 dX6_stand_24 (by rw [q4]; decide) (by rw [q4]; decide) (by rw [q4]; try rfl) (by decide) ?_
          refine kw_aload_n X dX6_stand_85 rfl 3 rfl ?_
          refine kw_iload_n X dX6_stand_86 rfl 1 rfl ?_
          obtain ⟨b5, hx5, hF⟩ := ob1_ex hF
          refine kb_cp X (r := .int b5) (As := [.int p1]) (st := []) (c_X5_brokenAt l D cI cC cR (a 1) (a 2) (a 3) (a 4) (a 5) (a 6) (a 7) (a 8) (a 9) c.1 c.2.1 c.2.2.1 c.2.2.2.1 c.2.2.2.2.1 p1 Z b5 hx5) vl_X6_230 yv_X5_brokenAt ⟨Nat.le_of_ble_eq_true rfl, Nat.le_of_ble_eq_true rfl⟩ ⟨rfl, rfl⟩ ⟨Nat.zero_le _, Nat.zero_le _⟩ 2 1 rfl rfl rfl [1, 2, 3, 4, 5, 6, 7, 8, 9] rfl rfl rfl rfl (Nat.le_of_ble_eq_true rfl) dX6_stand_87 ?_
          obtain rfl := si1 hF
          exact hret _ _ _ (vp_nar_int _) dX6_stand_90
        · replace hF := (if_neg q4).symm.trans hF
          by_cases q6 : p2 = 3
          · replace hF := (if_pos q6).symm.trans hF
            refine kw_tblIn X 91 dX6_stand_24 (by rw [q6]; decide) (by rw [q6]; decide) (by rw [q6]; try rfl) (by decide) ?_
            refine kw_aload_n X dX6_stand_91 rfl 3 rfl ?_
            refine kw_iload_n X dX6_stand_92 rfl 1 rfl ?_
            obtain ⟨b7, hx7, hF⟩ := ob1_ex hF
            refine kb_cp X (r := .int b7) (As := [.int p1]) (st := []) (c_X5_bestAt l D cI cC cR (a 1) (a 2) (a 3) (a 4) (a 5) (a 6) (a 7) (a 8) (a 9) c.1 c.2.1 c.2.2.1 c.2.2.2.1 c.2.2.2.2.1 p1 Z b7 hx7) vl_X6_233 yv_X5_bestAt ⟨Nat.le_of_ble_eq_true rfl, Nat.le_of_ble_eq_true rfl⟩ ⟨rfl, rfl⟩ ⟨Nat.zero_le _, Nat.zero_le _⟩ 2 1 rfl rfl rfl [1, 2, 3, 4, 5, 6, 7, 8, 9] rfl rfl rfl rfl (Nat.le_of_ble_eq_true rfl) dX6_stand_93 ?_
            obtain rfl := si1 hF
            exact hret _ _ _ (vp_nar_int _) dX6_stand_96
          · replace hF := (if_neg q6).symm.trans hF
            by_cases q8 : p2 = 4
            · replace hF := (if_pos q8).symm.trans hF
              refine kw_tblIn X 97 dX6_stand_24 (by rw [q8]; decide) (by rw [q8]; decide) (by rw [q8]; try rfl) (by decide) ?_
              refine kw_aload_n X dX6_stand_97 rfl 3 rfl ?_
              refine kw_iload_n X dX6_stand_98 rfl 1 rfl ?_
              obtain ⟨b9, hx9, hF⟩ := ob1_ex hF
              refine kb_cp X (r := .int b9) (As := [.int p1]) (st := []) (c_X5_worstAt l D cI cC cR (a 1) (a 2) (a 3) (a 4) (a 5) (a 6) (a 7) (a 8) (a 9) c.1 c.2.1 c.2.2.1 c.2.2.2.1 c.2.2.2.2.1 p1 Z b9 hx9) vl_X6_236 yv_X5_worstAt ⟨Nat.le_of_ble_eq_true rfl, Nat.le_of_ble_eq_true rfl⟩ ⟨rfl, rfl⟩ ⟨Nat.zero_le _, Nat.zero_le _⟩ 2 1 rfl rfl rfl [1, 2, 3, 4, 5, 6, 7, 8, 9] rfl rfl rfl rfl (Nat.le_of_ble_eq_true rfl) dX6_stand_99 ?_
              obtain rfl := si1 hF
              exact hret _ _ _ (vp_nar_int _) dX6_stand_102
            · replace hF := (if_neg q8).symm.trans hF
              by_cases q10 : p2 = 5
              · replace hF := (if_pos q10).symm.trans hF
                refine kw_tblIn X 103 dX6_stand_24 (by rw [q10]; decide) (by rw [q10]; decide) (by rw [q10]; try rfl) (by decide) ?_
                refine kw_aload_n X dX6_stand_103 rfl 3 rfl ?_
                refine kw_iload_n X dX6_stand_104 rfl 1 rfl ?_
                obtain ⟨b11, hx11, hF⟩ := ob1_ex hF
                refine kb_cp X (r := .int b11) (As := [.int p1]) (st := []) (c_X5_meanWearAt l D cI cC cR (a 1) (a 2) (a 3) (a 4) (a 5) (a 6) (a 7) (a 8) (a 9) c.1 c.2.1 c.2.2.1 c.2.2.2.1 c.2.2.2.2.1 p1 Z b11 hx11) vl_X6_239 yv_X5_meanWearAt ⟨Nat.le_of_ble_eq_true rfl, Nat.le_of_ble_eq_true rfl⟩ ⟨rfl, rfl⟩ ⟨Nat.zero_le _, Nat.zero_le _⟩ 2 1 rfl rfl rfl [1, 2, 3, 4, 5, 6, 7, 8, 9] rfl rfl rfl rfl (Nat.le_of_ble_eq_true rfl) dX6_stand_105 ?_
                obtain rfl := si1 hF
                exact hret _ _ _ (vp_nar_int _) dX6_stand_108
              · replace hF := (if_neg q10).symm.trans hF
                have n0 := ne_toInt q2 (n := 0) (by decide)
                have n1 := ne_toInt q3 (n := 1) (by decide)
                have n2 := ne_toInt q4 (n := 2) (by decide)
                have n3 := ne_toInt q6 (n := 3) (by decide)
                have n4 := ne_toInt q8 (n := 4) (by decide)
                have n5 := ne_toInt q10 (n := 5) (by decide)
                refine kw_tblOut X 109 dX6_stand_24 (by omega) (by decide) ?_
                refine kw_iconst X dX6_stand_109 ci_m1 ?_
                obtain rfl := si1 hF
                exact hret _ _ _ (vp_nar_int _) dX6_stand_110
  · replace hF := (if_neg q1).symm.trans hF
    refine kw_iconst X dX6_stand_10 ci_m1 ?_
    obtain rfl := si1 hF
    exact hret _ _ _ (vp_nar_int _) dX6_stand_11
-- X6_person
def f_X6_person (Z : Nat) (c : CV) (p1 : Int32) (p2 : Int32) : Option (Int32) :=
  (if (f_X6_outside p1 0 11) = 0 then (ob1 (f_X0_inHand Z c.1 c.2.2.2.2.1 p1) (fun (b2 : Int32) => (if p2 = 0 then (some (f_X2_at 12 c.2.2.2.2.2.2.1 p1)) else (if p2 = 1 then (some b2) else (if p2 = 2 then (some (f_X2_at 12 c.2.2.2.2.2.2.2.1 p1)) else (if p2 = 3 then (if b2 = (-9) then (some 0) else (if (f_X5_isBroken c.2.1 b2) = 0 then (some 0) else (some 1))) else (if p2 = 4 then (some (f_X2_at 12 c.2.2.2.2.2.2.2.2.1 p1)) else (if p2 = 5 then (some (f_X2_at 12 c.2.2.2.2.2.2.2.2.2.1 p1)) else (some (-1)))))))))) else (some (-1)))
abbrev rm_X6_person : Room := { frames := 3, cells := 0, slots := 0, locals := 66 }
set_option maxHeartbeats 4000000 in
set_option maxRecDepth 100000 in
theorem c_X6_person (l : Launch) (D : va_G) (cI cC cR : ClassId) (h0 h1 t0 t1 : Nat) (a b d ah : Nat → Nat) (c : CV) (s0 : CV) (s1 : CV) (k0 : Int32) (k1 : Int32) (g : Nat → SV) (nx : Nat) (sz : Int32) (ch : Nat → Int32) (len : Int32) (cur : Int32) (verb : Int32) (fi : Int32) (se : Int32) (p1 : Int32) (p2 : Int32) (hb_k0 : k0 = 0 ∨ k0 = 1) (hb_k1 : k1 = 0 ∨ k1 = 1) (hnx : nx < 5) (hb_g : ∀ i, ((g i).2.2.2.1 = 0 ∨ (g i).2.2.2.1 = 1) ∧ ((g i).2.2.2.2 = 0 ∨ (g i).2.2.2.2 = 1)) (Z : Nat) (r : Int32) (hF : f_X6_person Z c p1 p2 = some r) : MPi l yX6_person cX6_person 5 (some .int) rm_X6_person D (TY cI cC cR) [.ref h0, .int p1, .int p2] (wj [[(h0, .inr (6, [.ref h1, .ref (ah 0), .ref t0]))], [(h1, .inr (3, [.ref (a 0), .ref (b 0), .ref (d 0), .int k0, .int k1]))], bC cI a c, bC cI b s0, bC cI d s1, bH cI cR ah g nx sz, wX4 cC t0 t1 ch len cur verb fi se]) (.int r) := by
  refine me_p pn_X6 (Nat.le_of_ble_eq_true rfl) rfl (fun Γ X hret => ?_)
  unfold f_X6_person at hF
  refine kw_iload_n X dX6_person_0 rfl 1 rfl ?_
  refine kw_iconst X dX6_person_1 ci_0 ?_
  refine kw_bipush X dX6_person_2 cb_11 ?_
  refine kw_sp X (r := .int (f_X6_outside p1 0 11)) (As := [.int p1, .int 0, .int 11]) (st := []) (c_X6_outside l D cI cC cR p1 0 11 (f_X6_outside p1 0 11) rfl) vl_X6_101 yv_X6_outside ⟨Nat.le_of_ble_eq_true rfl, Nat.le_of_ble_eq_true rfl⟩ ⟨rfl, rfl⟩ ⟨Nat.zero_le _, Nat.zero_le _⟩ [] rfl rfl rfl rfl (Nat.le_of_ble_eq_true rfl) dX6_person_4 ?_
  refine kw_if_eq X 12 dX6_person_7 (by decide) (fun q1 => ?_) (fun q1 => ?_)
  · replace hF := (if_pos q1).symm.trans hF
    refine kw_aload_n X dX6_person_12 rfl 0 rfl ?_
    refine kb_get X inX6 0 0 rfl rfl rfl 0 (by decide) rfl gw_203 rfl dX6_person_13 ?_
    refine kb_getN X inX3 1 0 rfl rfl rfl 0 (by decide) rfl nw_22 rfl dX6_person_16 ?_
    refine kw_astore_n (lo' := [(0, .ref h0), (1, .int p1), (2, .int p2), (3, .ref (a 0))]) X dX6_person_19 rfl (by decide) [1, 2, 3, 0] rfl ?_
    refine kw_aload_n X dX6_person_20 rfl 3 rfl ?_
    refine kw_iload_n X dX6_person_21 rfl 1 rfl ?_
    obtain ⟨b2, hx2, hF⟩ := ob1_ex hF
    refine kb_ap X (r := .int b2) (As := [.int p1]) (st := []) (c_X0_inHand l D cI cC cR (a 0) (a 1) (a 2) (a 3) (a 4) (a 5) (a 6) (a 7) (a 8) (a 9) (a 10) (a 11) (a 12) (a 13) (a 14) (a 15) (a 16) (a 17) (a 18) (a 19) c.1 c.2.1 c.2.2.1 c.2.2.2.1 c.2.2.2.2.1 c.2.2.2.2.2.1 c.2.2.2.2.2.2.1 c.2.2.2.2.2.2.2.1 c.2.2.2.2.2.2.2.2.1 c.2.2.2.2.2.2.2.2.2.1 c.2.2.2.2.2.2.2.2.2.2.1 c.2.2.2.2.2.2.2.2.2.2.2.1 c.2.2.2.2.2.2.2.2.2.2.2.2.1 c.2.2.2.2.2.2.2.2.2.2.2.2.2.1 c.2.2.2.2.2.2.2.2.2.2.2.2.2.2.1 c.2.2.2.2.2.2.2.2.2.2.2.2.2.2.2 p1 Z b2 hx2) vl_X6_242 yv_X0_inHand ⟨Nat.le_of_ble_eq_true rfl, Nat.le_of_ble_eq_true rfl⟩ ⟨rfl, rfl⟩ ⟨Nat.zero_le _, Nat.zero_le _⟩ 2 0 rfl rfl rfl rfl rfl (Nat.le_of_ble_eq_true rfl) dX6_person_22 ?_
    refine kw_istore (lo' := [(0, .ref h0), (1, .int p1), (2, .int p2), (3, .ref (a 0)), (4, .int b2)]) X dX6_person_25 (by decide) [1, 2, 3, 4, 0] rfl ?_
    refine kw_iload_n X dX6_person_27 rfl 2 rfl ?_
    by_cases q3 : p2 = 0
    · replace hF := (if_pos q3).symm.trans hF
      refine kw_tblIn X 68 dX6_person_28 (by rw [q3]; decide) (by rw [q3]; decide) (by rw [q3]; try rfl) (by decide) ?_
      refine kw_aload_n X dX6_person_68 rfl 3 rfl ?_
      refine kb_getN X inX0 2 0 rfl rfl rfl 2 (by decide) rfl nw_12 rfl dX6_person_69 ?_
      refine kw_iload_n X dX6_person_72 rfl 1 rfl ?_
      refine kb_cp X (r := .int (f_X2_at 12 c.2.2.2.2.2.2.1 p1)) (As := [.int p1]) (st := []) (c_X2_at l D cI cC cR (a 12) (a 13) 12 (by decide) c.2.2.2.2.2.2.1 p1 (f_X2_at 12 c.2.2.2.2.2.2.1 p1) rfl) vl_X6_206 yv_X2_at ⟨Nat.le_of_ble_eq_true rfl, Nat.le_of_ble_eq_true rfl⟩ ⟨rfl, rfl⟩ ⟨Nat.zero_le _, Nat.zero_le _⟩ 2 12 rfl rfl rfl [12, 13] rfl rfl rfl rfl (Nat.le_of_ble_eq_true rfl) dX6_person_73 ?_
      obtain rfl := si1 hF
      exact hret _ _ _ (vp_nar_int _) dX6_person_76
    · replace hF := (if_neg q3).symm.trans hF
      by_cases q4 : p2 = 1
      · replace hF := (if_pos q4).symm.trans hF
        refine kw_tblIn X 77 dX6_person_28 (by rw [q4]; decide) (by rw [q4]; decide) (by rw [q4]; try rfl) (by decide) ?_
        refine kw_iload X dX6_person_77 4 rfl ?_
        obtain rfl := si1 hF
        exact hret _ _ _ (vp_nar_int _) dX6_person_79
      · replace hF := (if_neg q4).symm.trans hF
        by_cases q5 : p2 = 2
        · replace hF := (if_pos q5).symm.trans hF
          refine kw_tblIn X 80 dX6_person_28 (by rw [q5]; decide) (by rw [q5]; decide) (by rw [q5]; try rfl) (by decide) ?_
          refine kw_aload_n X dX6_person_80 rfl 3 rfl ?_
          refine kb_getN X inX0 2 0 rfl rfl rfl 3 (by decide) rfl nw_13 rfl dX6_person_81 ?_
          refine kw_iload_n X dX6_person_84 rfl 1 rfl ?_
          refine kb_cp X (r := .int (f_X2_at 12 c.2.2.2.2.2.2.2.1 p1)) (As := [.int p1]) (st := []) (c_X2_at l D cI cC cR (a 14) (a 15) 12 (by decide) c.2.2.2.2.2.2.2.1 p1 (f_X2_at 12 c.2.2.2.2.2.2.2.1 p1) rfl) vl_X6_206 yv_X2_at ⟨Nat.le_of_ble_eq_true rfl, Nat.le_of_ble_eq_true rfl⟩ ⟨rfl, rfl⟩ ⟨Nat.zero_le _, Nat.zero_le _⟩ 2 14 rfl rfl rfl [14, 15] rfl rfl rfl rfl (Nat.le_of_ble_eq_true rfl) dX6_person_85 ?_
          obtain rfl := si1 hF
          exact hret _ _ _ (vp_nar_int _) dX6_person_88
        · replace hF := (if_neg q5).symm.trans hF
          by_cases q6 : p2 = 3
          · replace hF := (if_pos q6).symm.trans hF
            refine kw_tblIn X 89 dX6_person_28 (by rw [q6]; decide) (by rw [q6]; decide) (by rw [q6]; try rfl) (by decide) ?_
            refine kw_iload X dX6_person_89 4 rfl ?_
            refine kw_bipush X dX6_person_91 cb_m9 ?_
            refine kw_icmp_eq X 112 dX6_person_93 (by decide) (fun q7 => ?_) (fun q7 => ?_)
            · replace hF := (if_pos q7).symm.trans hF
              refine kw_iconst X dX6_person_112 ci_0 ?_
              obtain rfl := si1 hF
              exact hret _ _ _ (vp_nar_int _) dX6_person_113
            · replace hF := (if_neg q7).symm.trans hF
              refine kw_aload_n X dX6_person_96 rfl 3 rfl ?_
              refine kb_getN X inX0 2 0 rfl rfl rfl 0 (by decide) rfl nw_10 rfl dX6_person_97 ?_
              refine kw_iload X dX6_person_100 4 rfl ?_
              refine kb_cp X (r := .int (f_X5_isBroken c.2.1 b2)) (As := [.int b2]) (st := []) (c_X5_isBroken l D cI cC cR (a 1) (a 2) (a 3) (a 4) (a 5) (a 6) (a 7) (a 8) (a 9) c.1 c.2.1 c.2.2.1 c.2.2.2.1 c.2.2.2.2.1 b2 (f_X5_isBroken c.2.1 b2) rfl) vl_X6_218 yv_X5_isBroken ⟨Nat.le_of_ble_eq_true rfl, Nat.le_of_ble_eq_true rfl⟩ ⟨rfl, rfl⟩ ⟨Nat.zero_le _, Nat.zero_le _⟩ 2 1 rfl rfl rfl [1, 2, 3, 4, 5, 6, 7, 8, 9] rfl rfl rfl rfl (Nat.le_of_ble_eq_true rfl) dX6_person_102 ?_
              refine kw_if_eq X 112 dX6_person_105 (by decide) (fun q8 => ?_) (fun q8 => ?_)
              · replace hF := (if_pos q8).symm.trans hF
                refine kw_iconst X dX6_person_112 ci_0 ?_
                obtain rfl := si1 hF
                exact hret _ _ _ (vp_nar_int _) dX6_person_113
              · replace hF := (if_neg q8).symm.trans hF
                refine kw_iconst X dX6_person_108 ci_1 ?_
                refine kw_goto X 113 dX6_person_109 (by decide) ?_
                obtain rfl := si1 hF
                exact hret _ _ _ (vp_nar_int _) dX6_person_113
          · replace hF := (if_neg q6).symm.trans hF
            by_cases q9 : p2 = 4
            · replace hF := (if_pos q9).symm.trans hF
              refine kw_tblIn X 114 dX6_person_28 (by rw [q9]; decide) (by rw [q9]; decide) (by rw [q9]; try rfl) (by decide) ?_
              refine kw_aload_n X dX6_person_114 rfl 3 rfl ?_
              refine kb_getN X inX0 2 0 rfl rfl rfl 4 (by decide) rfl nw_14 rfl dX6_person_115 ?_
              refine kw_iload_n X dX6_person_118 rfl 1 rfl ?_
              refine kb_cp X (r := .int (f_X2_at 12 c.2.2.2.2.2.2.2.2.1 p1)) (As := [.int p1]) (st := []) (c_X2_at l D cI cC cR (a 16) (a 17) 12 (by decide) c.2.2.2.2.2.2.2.2.1 p1 (f_X2_at 12 c.2.2.2.2.2.2.2.2.1 p1) rfl) vl_X6_206 yv_X2_at ⟨Nat.le_of_ble_eq_true rfl, Nat.le_of_ble_eq_true rfl⟩ ⟨rfl, rfl⟩ ⟨Nat.zero_le _, Nat.zero_le _⟩ 2 16 rfl rfl rfl [16, 17] rfl rfl rfl rfl (Nat.le_of_ble_eq_true rfl) dX6_person_119 ?_
              obtain rfl := si1 hF
              exact hret _ _ _ (vp_nar_int _) dX6_person_122
            · replace hF := (if_neg q9).symm.trans hF
              by_cases q10 : p2 = 5
              · replace hF := (if_pos q10).symm.trans hF
                refine kw_tblIn X 123 dX6_person_28 (by rw [q10]; decide) (by rw [q10]; decide) (by rw [q10]; try rfl) (by decide) ?_
                refine kw_aload_n X dX6_person_123 rfl 3 rfl ?_
                refine kb_getN X inX0 2 0 rfl rfl rfl 5 (by decide) rfl nw_15 rfl dX6_person_124 ?_
                refine kw_iload_n X dX6_person_127 rfl 1 rfl ?_
                refine kb_cp X (r := .int (f_X2_at 12 c.2.2.2.2.2.2.2.2.2.1 p1)) (As := [.int p1]) (st := []) (c_X2_at l D cI cC cR (a 18) (a 19) 12 (by decide) c.2.2.2.2.2.2.2.2.2.1 p1 (f_X2_at 12 c.2.2.2.2.2.2.2.2.2.1 p1) rfl) vl_X6_206 yv_X2_at ⟨Nat.le_of_ble_eq_true rfl, Nat.le_of_ble_eq_true rfl⟩ ⟨rfl, rfl⟩ ⟨Nat.zero_le _, Nat.zero_le _⟩ 2 18 rfl rfl rfl [18, 19] rfl rfl rfl rfl (Nat.le_of_ble_eq_true rfl) dX6_person_128 ?_
                obtain rfl := si1 hF
                exact hret _ _ _ (vp_nar_int _) dX6_person_131
              · replace hF := (if_neg q10).symm.trans hF
                have n0 := ne_toInt q3 (n := 0) (by decide)
                have n1 := ne_toInt q4 (n := 1) (by decide)
                have n2 := ne_toInt q5 (n := 2) (by decide)
                have n3 := ne_toInt q6 (n := 3) (by decide)
                have n4 := ne_toInt q9 (n := 4) (by decide)
                have n5 := ne_toInt q10 (n := 5) (by decide)
                refine kw_tblOut X 132 dX6_person_28 (by omega) (by decide) ?_
                refine kw_iconst X dX6_person_132 ci_m1 ?_
                obtain rfl := si1 hF
                exact hret _ _ _ (vp_nar_int _) dX6_person_133
  · replace hF := (if_neg q1).symm.trans hF
    refine kw_iconst X dX6_person_10 ci_m1 ?_
    obtain rfl := si1 hF
    exact hret _ _ _ (vp_nar_int _) dX6_person_11
-- X6_inVan
def f_X6_inVan (Z : Nat) (c : CV) (p1 : Int32) (p2 : Int32) : Option (Int32) :=
  (if (f_X6_outside p1 0 1) = 0 then (if p2 < 0 then (some (-1)) else (ob1 (f_X5_nthAt Z c.1 c.2.2.2.2.1 (20 + p1) p2) (fun (b3 : Int32) => (some b3)))) else (some (-1)))
abbrev rm_X6_inVan : Room := { frames := 2, cells := 0, slots := 0, locals := 45 }
set_option maxHeartbeats 4000000 in
set_option maxRecDepth 100000 in
theorem c_X6_inVan (l : Launch) (D : va_G) (cI cC cR : ClassId) (h0 h1 t0 t1 : Nat) (a b d ah : Nat → Nat) (c : CV) (s0 : CV) (s1 : CV) (k0 : Int32) (k1 : Int32) (g : Nat → SV) (nx : Nat) (sz : Int32) (ch : Nat → Int32) (len : Int32) (cur : Int32) (verb : Int32) (fi : Int32) (se : Int32) (p1 : Int32) (p2 : Int32) (hb_k0 : k0 = 0 ∨ k0 = 1) (hb_k1 : k1 = 0 ∨ k1 = 1) (hnx : nx < 5) (hb_g : ∀ i, ((g i).2.2.2.1 = 0 ∨ (g i).2.2.2.1 = 1) ∧ ((g i).2.2.2.2 = 0 ∨ (g i).2.2.2.2 = 1)) (Z : Nat) (r : Int32) (hF : f_X6_inVan Z c p1 p2 = some r) : MPi l yX6_inVan cX6_inVan 3 (some .int) rm_X6_inVan D (TY cI cC cR) [.ref h0, .int p1, .int p2] (wj [[(h0, .inr (6, [.ref h1, .ref (ah 0), .ref t0]))], [(h1, .inr (3, [.ref (a 0), .ref (b 0), .ref (d 0), .int k0, .int k1]))], bC cI a c, bC cI b s0, bC cI d s1, bH cI cR ah g nx sz, wX4 cC t0 t1 ch len cur verb fi se]) (.int r) := by
  refine me_p pn_X6 (Nat.le_of_ble_eq_true rfl) rfl (fun Γ X hret => ?_)
  unfold f_X6_inVan at hF
  refine kw_iload_n X dX6_inVan_0 rfl 1 rfl ?_
  refine kw_iconst X dX6_inVan_1 ci_0 ?_
  refine kw_iconst X dX6_inVan_2 ci_1 ?_
  refine kw_sp X (r := .int (f_X6_outside p1 0 1)) (As := [.int p1, .int 0, .int 1]) (st := []) (c_X6_outside l D cI cC cR p1 0 1 (f_X6_outside p1 0 1) rfl) vl_X6_101 yv_X6_outside ⟨Nat.le_of_ble_eq_true rfl, Nat.le_of_ble_eq_true rfl⟩ ⟨rfl, rfl⟩ ⟨Nat.zero_le _, Nat.zero_le _⟩ [] rfl rfl rfl rfl (Nat.le_of_ble_eq_true rfl) dX6_inVan_3 ?_
  refine kw_if_ne X 13 dX6_inVan_6 (by decide) (fun q1 => ?_) (fun q1 => ?_)
  · replace hF := (if_neg q1).symm.trans hF
    refine kw_iconst X dX6_inVan_13 ci_m1 ?_
    obtain rfl := si1 hF
    exact hret _ _ _ (vp_nar_int _) dX6_inVan_14
  · replace hF := (if_pos q1).symm.trans hF
    refine kw_iload_n X dX6_inVan_9 rfl 2 rfl ?_
    refine kw_if_ge X 15 dX6_inVan_10 (by decide) (fun q2 => ?_) (fun q2 => ?_)
    · replace hF := (if_neg q2).symm.trans hF
      refine kw_aload_n X dX6_inVan_15 rfl 0 rfl ?_
      refine kb_get X inX6 0 0 rfl rfl rfl 0 (by decide) rfl gw_203 rfl dX6_inVan_16 ?_
      refine kb_getN X inX3 1 0 rfl rfl rfl 0 (by decide) rfl nw_22 rfl dX6_inVan_19 ?_
      refine kb_getN X inX0 2 0 rfl rfl rfl 0 (by decide) rfl nw_10 rfl dX6_inVan_22 ?_
      refine kw_bipush X dX6_inVan_25 cb_20 ?_
      refine kw_iload_n X dX6_inVan_27 rfl 1 rfl ?_
      refine kw_iadd X dX6_inVan_28 ?_
      refine kw_iload_n X dX6_inVan_29 rfl 2 rfl ?_
      obtain ⟨b3, hx3, hF⟩ := ob1_ex hF
      refine kb_cp X (r := .int b3) (As := [.int (20 + p1), .int p2]) (st := []) (c_X5_nthAt l D cI cC cR (a 1) (a 2) (a 3) (a 4) (a 5) (a 6) (a 7) (a 8) (a 9) c.1 c.2.1 c.2.2.1 c.2.2.2.1 c.2.2.2.2.1 (20 + p1) p2 Z b3 hx3) vl_X6_251 yv_X5_nthAt ⟨Nat.le_of_ble_eq_true rfl, Nat.le_of_ble_eq_true rfl⟩ ⟨rfl, rfl⟩ ⟨Nat.zero_le _, Nat.zero_le _⟩ 2 1 rfl rfl rfl [1, 2, 3, 4, 5, 6, 7, 8, 9] rfl rfl rfl rfl (Nat.le_of_ble_eq_true rfl) dX6_inVan_30 ?_
      obtain rfl := si1 hF
      exact hret _ _ _ (vp_nar_int _) dX6_inVan_33
    · replace hF := (if_pos q2).symm.trans hF
      refine kw_iconst X dX6_inVan_13 ci_m1 ?_
      obtain rfl := si1 hF
      exact hret _ _ _ (vp_nar_int _) dX6_inVan_14
-- X6_feeIn
def f_X6_feeIn (Z : Nat) (c : CV) (p1 : Int32) (p2 : Int32) (p3 : Int32) : Option (Int32) :=
  (if (f_X6_outside p1 0 11) = 0 then (if (f_X6_outside p2 0 50) = 0 then (if (f_X6_outside p3 0 9) = 0 then (if (f_X0_hasOne c.2.2.2.1 p1) = 0 then (some (-2)) else (ob1 (f_X0_feeAfter Z c.1 c.2.1 c.2.2.2.2.1 c.2.2.2.2.2.2.2.1 c.2.2.2.2.2.2.2.2.2.2.2.2.2.2.2 p1 p2 p3) (fun (b5 : Int32) => (some b5)))) else (some (-1))) else (some (-1))) else (some (-1)))
abbrev rm_X6_feeIn : Room := { frames := 4, cells := 0, slots := 0, locals := 92 }
set_option maxHeartbeats 4000000 in
set_option maxRecDepth 100000 in
theorem c_X6_feeIn (l : Launch) (D : va_G) (cI cC cR : ClassId) (h0 h1 t0 t1 : Nat) (a b d ah : Nat → Nat) (c : CV) (s0 : CV) (s1 : CV) (k0 : Int32) (k1 : Int32) (g : Nat → SV) (nx : Nat) (sz : Int32) (ch : Nat → Int32) (len : Int32) (cur : Int32) (verb : Int32) (fi : Int32) (se : Int32) (p1 : Int32) (p2 : Int32) (p3 : Int32) (hb_k0 : k0 = 0 ∨ k0 = 1) (hb_k1 : k1 = 0 ∨ k1 = 1) (hnx : nx < 5) (hb_g : ∀ i, ((g i).2.2.2.1 = 0 ∨ (g i).2.2.2.1 = 1) ∧ ((g i).2.2.2.2 = 0 ∨ (g i).2.2.2.2 = 1)) (Z : Nat) (r : Int32) (hF : f_X6_feeIn Z c p1 p2 p3 = some r) : MPi l yX6_feeIn cX6_feeIn 4 (some .int) rm_X6_feeIn D (TY cI cC cR) [.ref h0, .int p1, .int p2, .int p3] (wj [[(h0, .inr (6, [.ref h1, .ref (ah 0), .ref t0]))], [(h1, .inr (3, [.ref (a 0), .ref (b 0), .ref (d 0), .int k0, .int k1]))], bC cI a c, bC cI b s0, bC cI d s1, bH cI cR ah g nx sz, wX4 cC t0 t1 ch len cur verb fi se]) (.int r) := by
  refine me_p pn_X6 (Nat.le_of_ble_eq_true rfl) rfl (fun Γ X hret => ?_)
  unfold f_X6_feeIn at hF
  refine kw_iload_n X dX6_feeIn_0 rfl 1 rfl ?_
  refine kw_iconst X dX6_feeIn_1 ci_0 ?_
  refine kw_bipush X dX6_feeIn_2 cb_11 ?_
  refine kw_sp X (r := .int (f_X6_outside p1 0 11)) (As := [.int p1, .int 0, .int 11]) (st := []) (c_X6_outside l D cI cC cR p1 0 11 (f_X6_outside p1 0 11) rfl) vl_X6_101 yv_X6_outside ⟨Nat.le_of_ble_eq_true rfl, Nat.le_of_ble_eq_true rfl⟩ ⟨rfl, rfl⟩ ⟨Nat.zero_le _, Nat.zero_le _⟩ [] rfl rfl rfl rfl (Nat.le_of_ble_eq_true rfl) dX6_feeIn_4 ?_
  refine kw_if_ne X 30 dX6_feeIn_7 (by decide) (fun q1 => ?_) (fun q1 => ?_)
  · replace hF := (if_neg q1).symm.trans hF
    refine kw_iconst X dX6_feeIn_30 ci_m1 ?_
    obtain rfl := si1 hF
    exact hret _ _ _ (vp_nar_int _) dX6_feeIn_31
  · replace hF := (if_pos q1).symm.trans hF
    refine kw_iload_n X dX6_feeIn_10 rfl 2 rfl ?_
    refine kw_iconst X dX6_feeIn_11 ci_0 ?_
    refine kw_bipush X dX6_feeIn_12 cb_50 ?_
    refine kw_sp X (r := .int (f_X6_outside p2 0 50)) (As := [.int p2, .int 0, .int 50]) (st := []) (c_X6_outside l D cI cC cR p2 0 50 (f_X6_outside p2 0 50) rfl) vl_X6_101 yv_X6_outside ⟨Nat.le_of_ble_eq_true rfl, Nat.le_of_ble_eq_true rfl⟩ ⟨rfl, rfl⟩ ⟨Nat.zero_le _, Nat.zero_le _⟩ [] rfl rfl rfl rfl (Nat.le_of_ble_eq_true rfl) dX6_feeIn_14 ?_
    refine kw_if_ne X 30 dX6_feeIn_17 (by decide) (fun q2 => ?_) (fun q2 => ?_)
    · replace hF := (if_neg q2).symm.trans hF
      refine kw_iconst X dX6_feeIn_30 ci_m1 ?_
      obtain rfl := si1 hF
      exact hret _ _ _ (vp_nar_int _) dX6_feeIn_31
    · replace hF := (if_pos q2).symm.trans hF
      refine kw_iload_n X dX6_feeIn_20 rfl 3 rfl ?_
      refine kw_iconst X dX6_feeIn_21 ci_0 ?_
      refine kw_bipush X dX6_feeIn_22 cb_9 ?_
      refine kw_sp X (r := .int (f_X6_outside p3 0 9)) (As := [.int p3, .int 0, .int 9]) (st := []) (c_X6_outside l D cI cC cR p3 0 9 (f_X6_outside p3 0 9) rfl) vl_X6_101 yv_X6_outside ⟨Nat.le_of_ble_eq_true rfl, Nat.le_of_ble_eq_true rfl⟩ ⟨rfl, rfl⟩ ⟨Nat.zero_le _, Nat.zero_le _⟩ [] rfl rfl rfl rfl (Nat.le_of_ble_eq_true rfl) dX6_feeIn_24 ?_
      refine kw_if_eq X 32 dX6_feeIn_27 (by decide) (fun q3 => ?_) (fun q3 => ?_)
      · replace hF := (if_pos q3).symm.trans hF
        refine kw_aload_n X dX6_feeIn_32 rfl 0 rfl ?_
        refine kb_get X inX6 0 0 rfl rfl rfl 0 (by decide) rfl gw_203 rfl dX6_feeIn_33 ?_
        refine kb_getN X inX3 1 0 rfl rfl rfl 0 (by decide) rfl nw_22 rfl dX6_feeIn_36 ?_
        refine kw_iload_n X dX6_feeIn_39 rfl 1 rfl ?_
        refine kb_ap X (r := .int (f_X0_hasOne c.2.2.2.1 p1)) (As := [.int p1]) (st := []) (c_X0_hasOne l D cI cC cR (a 0) (a 1) (a 2) (a 3) (a 4) (a 5) (a 6) (a 7) (a 8) (a 9) (a 10) (a 11) (a 12) (a 13) (a 14) (a 15) (a 16) (a 17) (a 18) (a 19) c.1 c.2.1 c.2.2.1 c.2.2.2.1 c.2.2.2.2.1 c.2.2.2.2.2.1 c.2.2.2.2.2.2.1 c.2.2.2.2.2.2.2.1 c.2.2.2.2.2.2.2.2.1 c.2.2.2.2.2.2.2.2.2.1 c.2.2.2.2.2.2.2.2.2.2.1 c.2.2.2.2.2.2.2.2.2.2.2.1 c.2.2.2.2.2.2.2.2.2.2.2.2.1 c.2.2.2.2.2.2.2.2.2.2.2.2.2.1 c.2.2.2.2.2.2.2.2.2.2.2.2.2.2.1 c.2.2.2.2.2.2.2.2.2.2.2.2.2.2.2 p1 (f_X0_hasOne c.2.2.2.1 p1) rfl) vl_X6_254 yv_X0_hasOne ⟨Nat.le_of_ble_eq_true rfl, Nat.le_of_ble_eq_true rfl⟩ ⟨rfl, rfl⟩ ⟨Nat.zero_le _, Nat.zero_le _⟩ 2 0 rfl rfl rfl rfl rfl (Nat.le_of_ble_eq_true rfl) dX6_feeIn_40 ?_
        refine kw_if_ne X 49 dX6_feeIn_43 (by decide) (fun q4 => ?_) (fun q4 => ?_)
        · replace hF := (if_neg q4).symm.trans hF
          refine kw_aload_n X dX6_feeIn_49 rfl 0 rfl ?_
          refine kb_get X inX6 0 0 rfl rfl rfl 0 (by decide) rfl gw_203 rfl dX6_feeIn_50 ?_
          refine kb_getN X inX3 1 0 rfl rfl rfl 0 (by decide) rfl nw_22 rfl dX6_feeIn_53 ?_
          refine kw_iload_n X dX6_feeIn_56 rfl 1 rfl ?_
          refine kw_iload_n X dX6_feeIn_57 rfl 2 rfl ?_
          refine kw_iload_n X dX6_feeIn_58 rfl 3 rfl ?_
          obtain ⟨b5, hx5, hF⟩ := ob1_ex hF
          refine kb_ap X (r := .int b5) (As := [.int p1, .int p2, .int p3]) (st := []) (c_X0_feeAfter l D cI cC cR (a 0) (a 1) (a 2) (a 3) (a 4) (a 5) (a 6) (a 7) (a 8) (a 9) (a 10) (a 11) (a 12) (a 13) (a 14) (a 15) (a 16) (a 17) (a 18) (a 19) c.1 c.2.1 c.2.2.1 c.2.2.2.1 c.2.2.2.2.1 c.2.2.2.2.2.1 c.2.2.2.2.2.2.1 c.2.2.2.2.2.2.2.1 c.2.2.2.2.2.2.2.2.1 c.2.2.2.2.2.2.2.2.2.1 c.2.2.2.2.2.2.2.2.2.2.1 c.2.2.2.2.2.2.2.2.2.2.2.1 c.2.2.2.2.2.2.2.2.2.2.2.2.1 c.2.2.2.2.2.2.2.2.2.2.2.2.2.1 c.2.2.2.2.2.2.2.2.2.2.2.2.2.2.1 c.2.2.2.2.2.2.2.2.2.2.2.2.2.2.2 p1 p2 p3 Z b5 hx5) vl_X6_257 yv_X0_feeAfter ⟨Nat.le_of_ble_eq_true rfl, Nat.le_of_ble_eq_true rfl⟩ ⟨rfl, rfl⟩ ⟨Nat.zero_le _, Nat.zero_le _⟩ 2 0 rfl rfl rfl rfl rfl (Nat.le_of_ble_eq_true rfl) dX6_feeIn_59 ?_
          obtain rfl := si1 hF
          exact hret _ _ _ (vp_nar_int _) dX6_feeIn_62
        · replace hF := (if_pos q4).symm.trans hF
          refine kw_bipush X dX6_feeIn_46 cb_m2 ?_
          obtain rfl := si1 hF
          exact hret _ _ _ (vp_nar_int _) dX6_feeIn_48
      · replace hF := (if_neg q3).symm.trans hF
        refine kw_iconst X dX6_feeIn_30 ci_m1 ?_
        obtain rfl := si1 hF
        exact hret _ _ _ (vp_nar_int _) dX6_feeIn_31
-- X6_breaksIn
def f_X6_breaksIn (Z : Nat) (c : CV) (p1 : Int32) (p2 : Int32) (p3 : Int32) : Option (Int32) :=
  (if (f_X6_outside p1 0 11) = 0 then (if (f_X6_outside p2 0 9) = 0 then (if (f_X6_outside p3 0 3) = 0 then (if (f_X0_hasOne c.2.2.2.1 p1) = 0 then (some (-2)) else (ob1 (f_X0_hoursToBreak Z c.1 c.2.1 c.2.2.2.2.1 p1 p2 p3) (fun (b5 : Int32) => (some b5)))) else (some (-1))) else (some (-1))) else (some (-1)))
abbrev rm_X6_breaksIn : Room := { frames := 4, cells := 0, slots := 0, locals := 91 }
set_option maxHeartbeats 4000000 in
set_option maxRecDepth 100000 in
theorem c_X6_breaksIn (l : Launch) (D : va_G) (cI cC cR : ClassId) (h0 h1 t0 t1 : Nat) (a b d ah : Nat → Nat) (c : CV) (s0 : CV) (s1 : CV) (k0 : Int32) (k1 : Int32) (g : Nat → SV) (nx : Nat) (sz : Int32) (ch : Nat → Int32) (len : Int32) (cur : Int32) (verb : Int32) (fi : Int32) (se : Int32) (p1 : Int32) (p2 : Int32) (p3 : Int32) (hb_k0 : k0 = 0 ∨ k0 = 1) (hb_k1 : k1 = 0 ∨ k1 = 1) (hnx : nx < 5) (hb_g : ∀ i, ((g i).2.2.2.1 = 0 ∨ (g i).2.2.2.1 = 1) ∧ ((g i).2.2.2.2 = 0 ∨ (g i).2.2.2.2 = 1)) (Z : Nat) (r : Int32) (hF : f_X6_breaksIn Z c p1 p2 p3 = some r) : MPi l yX6_breaksIn cX6_breaksIn 4 (some .int) rm_X6_breaksIn D (TY cI cC cR) [.ref h0, .int p1, .int p2, .int p3] (wj [[(h0, .inr (6, [.ref h1, .ref (ah 0), .ref t0]))], [(h1, .inr (3, [.ref (a 0), .ref (b 0), .ref (d 0), .int k0, .int k1]))], bC cI a c, bC cI b s0, bC cI d s1, bH cI cR ah g nx sz, wX4 cC t0 t1 ch len cur verb fi se]) (.int r) := by
  refine me_p pn_X6 (Nat.le_of_ble_eq_true rfl) rfl (fun Γ X hret => ?_)
  unfold f_X6_breaksIn at hF
  refine kw_iload_n X dX6_breaksIn_0 rfl 1 rfl ?_
  refine kw_iconst X dX6_breaksIn_1 ci_0 ?_
  refine kw_bipush X dX6_breaksIn_2 cb_11 ?_
  refine kw_sp X (r := .int (f_X6_outside p1 0 11)) (As := [.int p1, .int 0, .int 11]) (st := []) (c_X6_outside l D cI cC cR p1 0 11 (f_X6_outside p1 0 11) rfl) vl_X6_101 yv_X6_outside ⟨Nat.le_of_ble_eq_true rfl, Nat.le_of_ble_eq_true rfl⟩ ⟨rfl, rfl⟩ ⟨Nat.zero_le _, Nat.zero_le _⟩ [] rfl rfl rfl rfl (Nat.le_of_ble_eq_true rfl) dX6_breaksIn_4 ?_
  refine kw_if_ne X 29 dX6_breaksIn_7 (by decide) (fun q1 => ?_) (fun q1 => ?_)
  · replace hF := (if_neg q1).symm.trans hF
    refine kw_iconst X dX6_breaksIn_29 ci_m1 ?_
    obtain rfl := si1 hF
    exact hret _ _ _ (vp_nar_int _) dX6_breaksIn_30
  · replace hF := (if_pos q1).symm.trans hF
    refine kw_iload_n X dX6_breaksIn_10 rfl 2 rfl ?_
    refine kw_iconst X dX6_breaksIn_11 ci_0 ?_
    refine kw_bipush X dX6_breaksIn_12 cb_9 ?_
    refine kw_sp X (r := .int (f_X6_outside p2 0 9)) (As := [.int p2, .int 0, .int 9]) (st := []) (c_X6_outside l D cI cC cR p2 0 9 (f_X6_outside p2 0 9) rfl) vl_X6_101 yv_X6_outside ⟨Nat.le_of_ble_eq_true rfl, Nat.le_of_ble_eq_true rfl⟩ ⟨rfl, rfl⟩ ⟨Nat.zero_le _, Nat.zero_le _⟩ [] rfl rfl rfl rfl (Nat.le_of_ble_eq_true rfl) dX6_breaksIn_14 ?_
    refine kw_if_ne X 29 dX6_breaksIn_17 (by decide) (fun q2 => ?_) (fun q2 => ?_)
    · replace hF := (if_neg q2).symm.trans hF
      refine kw_iconst X dX6_breaksIn_29 ci_m1 ?_
      obtain rfl := si1 hF
      exact hret _ _ _ (vp_nar_int _) dX6_breaksIn_30
    · replace hF := (if_pos q2).symm.trans hF
      refine kw_iload_n X dX6_breaksIn_20 rfl 3 rfl ?_
      refine kw_iconst X dX6_breaksIn_21 ci_0 ?_
      refine kw_iconst X dX6_breaksIn_22 ci_3 ?_
      refine kw_sp X (r := .int (f_X6_outside p3 0 3)) (As := [.int p3, .int 0, .int 3]) (st := []) (c_X6_outside l D cI cC cR p3 0 3 (f_X6_outside p3 0 3) rfl) vl_X6_101 yv_X6_outside ⟨Nat.le_of_ble_eq_true rfl, Nat.le_of_ble_eq_true rfl⟩ ⟨rfl, rfl⟩ ⟨Nat.zero_le _, Nat.zero_le _⟩ [] rfl rfl rfl rfl (Nat.le_of_ble_eq_true rfl) dX6_breaksIn_23 ?_
      refine kw_if_eq X 31 dX6_breaksIn_26 (by decide) (fun q3 => ?_) (fun q3 => ?_)
      · replace hF := (if_pos q3).symm.trans hF
        refine kw_aload_n X dX6_breaksIn_31 rfl 0 rfl ?_
        refine kb_get X inX6 0 0 rfl rfl rfl 0 (by decide) rfl gw_203 rfl dX6_breaksIn_32 ?_
        refine kb_getN X inX3 1 0 rfl rfl rfl 0 (by decide) rfl nw_22 rfl dX6_breaksIn_35 ?_
        refine kw_iload_n X dX6_breaksIn_38 rfl 1 rfl ?_
        refine kb_ap X (r := .int (f_X0_hasOne c.2.2.2.1 p1)) (As := [.int p1]) (st := []) (c_X0_hasOne l D cI cC cR (a 0) (a 1) (a 2) (a 3) (a 4) (a 5) (a 6) (a 7) (a 8) (a 9) (a 10) (a 11) (a 12) (a 13) (a 14) (a 15) (a 16) (a 17) (a 18) (a 19) c.1 c.2.1 c.2.2.1 c.2.2.2.1 c.2.2.2.2.1 c.2.2.2.2.2.1 c.2.2.2.2.2.2.1 c.2.2.2.2.2.2.2.1 c.2.2.2.2.2.2.2.2.1 c.2.2.2.2.2.2.2.2.2.1 c.2.2.2.2.2.2.2.2.2.2.1 c.2.2.2.2.2.2.2.2.2.2.2.1 c.2.2.2.2.2.2.2.2.2.2.2.2.1 c.2.2.2.2.2.2.2.2.2.2.2.2.2.1 c.2.2.2.2.2.2.2.2.2.2.2.2.2.2.1 c.2.2.2.2.2.2.2.2.2.2.2.2.2.2.2 p1 (f_X0_hasOne c.2.2.2.1 p1) rfl) vl_X6_254 yv_X0_hasOne ⟨Nat.le_of_ble_eq_true rfl, Nat.le_of_ble_eq_true rfl⟩ ⟨rfl, rfl⟩ ⟨Nat.zero_le _, Nat.zero_le _⟩ 2 0 rfl rfl rfl rfl rfl (Nat.le_of_ble_eq_true rfl) dX6_breaksIn_39 ?_
        refine kw_if_ne X 48 dX6_breaksIn_42 (by decide) (fun q4 => ?_) (fun q4 => ?_)
        · replace hF := (if_neg q4).symm.trans hF
          refine kw_aload_n X dX6_breaksIn_48 rfl 0 rfl ?_
          refine kb_get X inX6 0 0 rfl rfl rfl 0 (by decide) rfl gw_203 rfl dX6_breaksIn_49 ?_
          refine kb_getN X inX3 1 0 rfl rfl rfl 0 (by decide) rfl nw_22 rfl dX6_breaksIn_52 ?_
          refine kw_iload_n X dX6_breaksIn_55 rfl 1 rfl ?_
          refine kw_iload_n X dX6_breaksIn_56 rfl 2 rfl ?_
          refine kw_iload_n X dX6_breaksIn_57 rfl 3 rfl ?_
          obtain ⟨b5, hx5, hF⟩ := ob1_ex hF
          refine kb_ap X (r := .int b5) (As := [.int p1, .int p2, .int p3]) (st := []) (c_X0_hoursToBreak l D cI cC cR (a 0) (a 1) (a 2) (a 3) (a 4) (a 5) (a 6) (a 7) (a 8) (a 9) (a 10) (a 11) (a 12) (a 13) (a 14) (a 15) (a 16) (a 17) (a 18) (a 19) c.1 c.2.1 c.2.2.1 c.2.2.2.1 c.2.2.2.2.1 c.2.2.2.2.2.1 c.2.2.2.2.2.2.1 c.2.2.2.2.2.2.2.1 c.2.2.2.2.2.2.2.2.1 c.2.2.2.2.2.2.2.2.2.1 c.2.2.2.2.2.2.2.2.2.2.1 c.2.2.2.2.2.2.2.2.2.2.2.1 c.2.2.2.2.2.2.2.2.2.2.2.2.1 c.2.2.2.2.2.2.2.2.2.2.2.2.2.1 c.2.2.2.2.2.2.2.2.2.2.2.2.2.2.1 c.2.2.2.2.2.2.2.2.2.2.2.2.2.2.2 p1 p2 p3 Z b5 hx5) vl_X6_260 yv_X0_hoursToBreak ⟨Nat.le_of_ble_eq_true rfl, Nat.le_of_ble_eq_true rfl⟩ ⟨rfl, rfl⟩ ⟨Nat.zero_le _, Nat.zero_le _⟩ 2 0 rfl rfl rfl rfl rfl (Nat.le_of_ble_eq_true rfl) dX6_breaksIn_58 ?_
          obtain rfl := si1 hF
          exact hret _ _ _ (vp_nar_int _) dX6_breaksIn_61
        · replace hF := (if_pos q4).symm.trans hF
          refine kw_bipush X dX6_breaksIn_45 cb_m2 ?_
          obtain rfl := si1 hF
          exact hret _ _ _ (vp_nar_int _) dX6_breaksIn_47
      · replace hF := (if_neg q3).symm.trans hF
        refine kw_iconst X dX6_breaksIn_29 ci_m1 ?_
        obtain rfl := si1 hF
        exact hret _ _ _ (vp_nar_int _) dX6_breaksIn_30
-- X6_emptied
def f_X6_emptied_L4 (Z : Nat) (c : CV) : Nat → Int32 → Int32 → Option (Int32)
  | 0, _, _ => none
  | F + 1, v1_14, v2_15 => (if v2_15 < 8 then (ob1 (f_X0_lackAt Z c.1 c.2.1 c.2.2.2.1 c.2.2.2.2.1 c.2.2.2.2.2.2.1 c.2.2.2.2.2.2.2.2.1 v2_15) (fun (b17 : Int32) => (pl1 (if b17 < 0 then v1_14 else (v1_14 ||| (1 <<< (v2_15 &&& 31)))) (fun (v1_19 : Int32) => (f_X6_emptied_L4 Z c F v1_19 (v2_15 + 1)))))) else (some (v1_14)))
def f_X6_emptied (Z : Nat) (c : CV) : Option (Int32) :=
  (ob1 (f_X6_emptied_L4 Z c Z 0 0) (fun (e13 : Int32) => (some e13)))
abbrev rm_X6_emptied : Room := { frames := 5, cells := 0, slots := 0, locals := 109 }
set_option maxHeartbeats 4000000 in
set_option maxRecDepth 100000 in
theorem c_X6_emptied (l : Launch) (D : va_G) (cI cC cR : ClassId) (h0 h1 t0 t1 : Nat) (a b d ah : Nat → Nat) (c : CV) (s0 : CV) (s1 : CV) (k0 : Int32) (k1 : Int32) (g : Nat → SV) (nx : Nat) (sz : Int32) (ch : Nat → Int32) (len : Int32) (cur : Int32) (verb : Int32) (fi : Int32) (se : Int32) (hb_k0 : k0 = 0 ∨ k0 = 1) (hb_k1 : k1 = 0 ∨ k1 = 1) (hnx : nx < 5) (hb_g : ∀ i, ((g i).2.2.2.1 = 0 ∨ (g i).2.2.2.1 = 1) ∧ ((g i).2.2.2.2 = 0 ∨ (g i).2.2.2.2 = 1)) (Z : Nat) (r : Int32) (hF : f_X6_emptied Z c = some r) : MPi l yX6_emptied cX6_emptied 3 (some .int) rm_X6_emptied D (TY cI cC cR) [.ref h0] (wj [[(h0, .inr (6, [.ref h1, .ref (ah 0), .ref t0]))], [(h1, .inr (3, [.ref (a 0), .ref (b 0), .ref (d 0), .int k0, .int k1]))], bC cI a c, bC cI b s0, bC cI d s1, bH cI cR ah g nx sz, wX4 cC t0 t1 ch len cur verb fi se]) (.int r) := by
  refine me_p pn_X6 (Nat.le_of_ble_eq_true rfl) rfl (fun Γ X hret => ?_)
  unfold f_X6_emptied at hF
  refine kw_iconst X dX6_emptied_0 ci_0 ?_
  refine kw_istore_n (lo' := [(0, .ref h0), (1, .int 0)]) X dX6_emptied_1 rfl (by decide) [1, 0] rfl ?_
  refine kw_iconst X dX6_emptied_2 ci_0 ?_
  refine kw_istore_n (lo' := [(0, .ref h0), (1, .int 0), (2, .int 0)]) X dX6_emptied_3 rfl (by decide) [1, 2, 0] rfl ?_
  obtain ⟨e13, hx, hF⟩ := ob1_ex hF
  have J : KW Γ 0 0 (wj [[(h0, .inr (6, [.ref h1, .ref (ah 0), .ref t0]))], [(h1, .inr (3, [.ref (a 0), .ref (b 0), .ref (d 0), .int k0, .int k1]))], bC cI a c, bC cI b s0, bC cI d s1, bH cI cR ah g nx sz, wX4 cC t0 t1 ch len cur verb fi se]) [(1, .int e13)] 36 [] := by
    refine kw_iload_n X dX6_emptied_36 rfl 0 rfl ?_
    obtain rfl := si1 hF
    exact hret _ _ _ (vp_nar_int _) dX6_emptied_37
  have hL4 : ∀ (F : Nat) (v1_14 : Int32) (v2_15 : Int32), f_X6_emptied_L4 Z c F v1_14 v2_15 = some (e13) → KW Γ 0 0 (wj [[(h0, .inr (6, [.ref h1, .ref (ah 0), .ref t0]))], [(h1, .inr (3, [.ref (a 0), .ref (b 0), .ref (d 0), .int k0, .int k1]))], bC cI a c, bC cI b s0, bC cI d s1, bH cI cR ah g nx sz, wX4 cC t0 t1 ch len cur verb fi se]) [(0, .ref h0), (1, .int v1_14), (2, .int v2_15)] 4 [] := by
    intro F
    induction F with
    | zero => intro v1_14 v2_15 hF; exact none_some hF
    | succ F ih4 =>
      intro v1_14 v2_15 hF
      rw [f_X6_emptied_L4] at hF
      refine kw_iload_n X dX6_emptied_4 rfl 2 rfl ?_
      refine kw_bipush X dX6_emptied_5 cb_8 ?_
      refine kw_icmp_ge X 36 dX6_emptied_7 (by decide) (fun q16 => ?_) (fun q16 => ?_)
      · replace hF := (if_neg q16).symm.trans hF
        refine kw_loc (lo' := [(1, .int v1_14)]) [1] rfl ?_
        obtain rfl := si1 hF
        exact J
      · replace hF := (if_pos q16).symm.trans hF
        refine kw_aload_n X dX6_emptied_10 rfl 0 rfl ?_
        refine kb_get X inX6 0 0 rfl rfl rfl 0 (by decide) rfl gw_203 rfl dX6_emptied_11 ?_
        refine kb_getN X inX3 1 0 rfl rfl rfl 0 (by decide) rfl nw_22 rfl dX6_emptied_14 ?_
        refine kw_iload_n X dX6_emptied_17 rfl 2 rfl ?_
        obtain ⟨b17, hx17, hF⟩ := ob1_ex hF
        refine kb_ap X (r := .int b17) (As := [.int v2_15]) (st := []) (c_X0_lackAt l D cI cC cR (a 0) (a 1) (a 2) (a 3) (a 4) (a 5) (a 6) (a 7) (a 8) (a 9) (a 10) (a 11) (a 12) (a 13) (a 14) (a 15) (a 16) (a 17) (a 18) (a 19) c.1 c.2.1 c.2.2.1 c.2.2.2.1 c.2.2.2.2.1 c.2.2.2.2.2.1 c.2.2.2.2.2.2.1 c.2.2.2.2.2.2.2.1 c.2.2.2.2.2.2.2.2.1 c.2.2.2.2.2.2.2.2.2.1 c.2.2.2.2.2.2.2.2.2.2.1 c.2.2.2.2.2.2.2.2.2.2.2.1 c.2.2.2.2.2.2.2.2.2.2.2.2.1 c.2.2.2.2.2.2.2.2.2.2.2.2.2.1 c.2.2.2.2.2.2.2.2.2.2.2.2.2.2.1 c.2.2.2.2.2.2.2.2.2.2.2.2.2.2.2 v2_15 Z b17 hx17) vl_X6_263 yv_X0_lackAt ⟨Nat.le_of_ble_eq_true rfl, Nat.le_of_ble_eq_true rfl⟩ ⟨rfl, rfl⟩ ⟨Nat.zero_le _, Nat.zero_le _⟩ 2 0 rfl rfl rfl rfl rfl (Nat.le_of_ble_eq_true rfl) dX6_emptied_18 ?_
        obtain ⟨v1_19, hx20, hF⟩ := pl1_ex hF
        have J : KW Γ 0 0 (wj [[(h0, .inr (6, [.ref h1, .ref (ah 0), .ref t0]))], [(h1, .inr (3, [.ref (a 0), .ref (b 0), .ref (d 0), .int k0, .int k1]))], bC cI a c, bC cI b s0, bC cI d s1, bH cI cR ah g nx sz, wX4 cC t0 t1 ch len cur verb fi se]) [(0, .ref h0), (1, .int v1_19), (2, .int v2_15)] 30 [] := by
          refine kw_iinc (lo' := [(0, .ref h0), (1, .int v1_19), (2, .int (v2_15 + 1))]) X dX6_emptied_30 2 rfl (congrArg (fun w => v2_15 + w) ci_1) (by decide) [1, 2, 0] rfl ?_
          refine kw_goto X 4 dX6_emptied_33 (by decide) ?_
          exact ih4 _ _ hF
        replace hF := hx20
        refine kw_if_lt X 30 dX6_emptied_21 (by decide) (fun q18 => ?_) (fun q18 => ?_)
        · replace hF := (if_pos q18).symm.trans hF
          obtain rfl := ti1 hF
          exact J
        · replace hF := (if_neg q18).symm.trans hF
          refine kw_iload_n X dX6_emptied_24 rfl 1 rfl ?_
          refine kw_iconst X dX6_emptied_25 ci_1 ?_
          refine kw_iload_n X dX6_emptied_26 rfl 2 rfl ?_
          refine kw_ishl X dX6_emptied_27 ?_
          refine kw_ior X dX6_emptied_28 ?_
          refine kw_istore_n (lo' := [(0, .ref h0), (1, .int (v1_14 ||| (1 <<< (v2_15 &&& 31)))), (2, .int v2_15)]) X dX6_emptied_29 rfl (by decide) [1, 0, 2] rfl ?_
          obtain rfl := ti1 hF
          exact J
  exact hL4 Z _ _ hx
-- X6_take_v0
def f_X6_take_v0 (c : CV) (s0 : CV) (s1 : CV) (k0 : Int32) (k1 : Int32) (g : Nat → SV) (nx : Nat) (sz : Int32) (p1 : Int32) : Int32 × CV × Int32 × (Nat → SV) × Nat × Int32 :=
  (if (f_X6_outside p1 0 1) = 0 then (pl3 (f_X1_record g nx sz c s0 s1 k0 k1) (fun (m2 : Nat → SV) (m3 : Nat) (b4 : Int32) => (pl2 (f_X3_keep_v0 c p1) (fun (m5 : CV) (b6 : Int32) => (c.2.2.2.2.2.2.2.2.2.2.1, m5, b6, m2, m3, b4))))) else ((-1), s0, k0, g, nx, sz))
abbrev rm_X6_take_v0 : Room := { frames := 6, cells := 0, slots := 0, locals := 132 }
set_option maxHeartbeats 4000000 in
set_option maxRecDepth 100000 in
theorem c_X6_take_v0 (l : Launch) (D : va_G) (cI cC cR : ClassId) (h0 h1 t0 t1 : Nat) (a b d ah : Nat → Nat) (c : CV) (s0 : CV) (s1 : CV) (k0 : Int32) (k1 : Int32) (g : Nat → SV) (nx : Nat) (sz : Int32) (ch : Nat → Int32) (len : Int32) (cur : Int32) (verb : Int32) (fi : Int32) (se : Int32) (p1 : Int32) (hb_k0 : k0 = 0 ∨ k0 = 1) (hb_k1 : k1 = 0 ∨ k1 = 1) (hnx : nx < 5) (hb_g : ∀ i, ((g i).2.2.2.1 = 0 ∨ (g i).2.2.2.1 = 1) ∧ ((g i).2.2.2.2 = 0 ∨ (g i).2.2.2.2 = 1)) (hs : p1 = 0) (r : Int32) (s0' : CV) (k0' : Int32) (g' : Nat → SV) (nx' : Nat) (sz' : Int32) (hF : f_X6_take_v0 c s0 s1 k0 k1 g nx sz p1 = (r, s0', k0', g', nx', sz')) : MEq l yX6_take cX6_take 2 (some .int) rm_X6_take_v0 D (TY cI cC cR) [.ref h0, .int p1] (wj [[(h0, .inr (6, [.ref h1, .ref (ah 0), .ref t0]))], [(h1, .inr (3, [.ref (a 0), .ref (b 0), .ref (d 0), .int k0, .int k1]))], bC cI a c, bC cI b s0, bC cI d s1, bH cI cR ah g nx sz, wX4 cC t0 t1 ch len cur verb fi se]) (wj [[(h0, .inr (6, [.ref h1, .ref (ah 0), .ref t0]))], [(h1, .inr (3, [.ref (a 0), .ref (b 0), .ref (d 0), .int k0', .int k1]))], bC cI a c, bC cI b s0', bC cI d s1, bH cI cR ah g' nx' sz', wX4 cC t0 t1 ch len cur verb fi se]) (some (.int r)) := by
  refine me_e pn_X6 (Nat.le_of_ble_eq_true rfl) rfl (fun Γ X E hret => ?_)
  unfold f_X6_take_v0 at hF
  refine kw_iload_n X dX6_take_0 rfl 1 rfl ?_
  refine kw_iconst X dX6_take_1 ci_0 ?_
  refine kw_iconst X dX6_take_2 ci_1 ?_
  refine kw_sp X (r := .int (f_X6_outside p1 0 1)) (As := [.int p1, .int 0, .int 1]) (st := []) (c_X6_outside l D cI cC cR p1 0 1 (f_X6_outside p1 0 1) rfl) vl_X6_101 yv_X6_outside ⟨Nat.le_of_ble_eq_true rfl, Nat.le_of_ble_eq_true rfl⟩ ⟨rfl, rfl⟩ ⟨Nat.zero_le _, Nat.zero_le _⟩ [] rfl rfl rfl rfl (Nat.le_of_ble_eq_true rfl) dX6_take_3 ?_
  refine kw_if_eq X 11 dX6_take_6 (by decide) (fun q1 => ?_) (fun q1 => ?_)
  · replace hF := (if_pos q1).symm.trans hF
    refine kw_aload_n X dX6_take_11 rfl 0 rfl ?_
    refine kb_get X inX6 0 0 rfl rfl rfl 1 (by decide) rfl gw_204 rfl dX6_take_12 ?_
    refine kw_aload_n X dX6_take_15 rfl 0 rfl ?_
    refine kb_get X inX6 0 0 rfl rfl rfl 0 (by decide) rfl gw_203 rfl dX6_take_16 ?_
    obtain ⟨m2, m3, b4, hx4, hF⟩ := pl3_ex hF
    refine kb_mev X (As := [.ref h1]) (st := []) (bs' := [[(h0, .inr (6, [.ref h1, .ref (ah 0), .ref t0]))], [(h1, .inr (3, [.ref (a 0), .ref (b 0), .ref (d 0), .int k0, .int k1]))], bC cI a c, bC cI b s0, bC cI d s1, bH cI cR ah m2 m3 b4, wX4 cC t0 t1 ch len cur verb fi se]) E (c_X1_record l D cI cC cR ah h1 a b d g nx sz c s0 s1 k0 k1 hnx hb_k0 hb_k1 m2 m3 b4 hx4) vl_X6_40 yv_X1_record ⟨Nat.le_of_ble_eq_true rfl, Nat.le_of_ble_eq_true rfl⟩ ⟨rfl, rfl⟩ ⟨Nat.zero_le _, Nat.zero_le _⟩ 5 0 rfl rfl rfl [5, 1, 2, 3, 4] rfl rfl rfl rfl (Nat.le_of_ble_eq_true rfl) dX6_take_19 (wa_c bH_same (wa_c rfl (wa_c rfl (wa_c rfl (wa_c rfl rfl))))) rfl ?_
    refine kw_aload_n X dX6_take_22 rfl 0 rfl ?_
    refine kb_get X inX6 0 0 rfl rfl rfl 0 (by decide) rfl gw_203 rfl dX6_take_23 ?_
    refine kw_iload_n X dX6_take_26 rfl 1 rfl ?_
    obtain ⟨m5, b6, hx6, hF⟩ := pl2_ex hF
    refine kb_mev X (As := [.int p1]) (st := []) (bs' := [[(h0, .inr (6, [.ref h1, .ref (ah 0), .ref t0]))], [(h1, .inr (3, [.ref (a 0), .ref (b 0), .ref (d 0), .int b6, .int k1]))], bC cI a c, bC cI b m5, bC cI d s1, bH cI cR ah m2 m3 b4, wX4 cC t0 t1 ch len cur verb fi se]) E (c_X3_keep_v0 l D cI cC cR h1 a b d c s0 s1 k0 k1 p1 hs m5 b6 hx6) vl_X6_105 yv_X3_keep ⟨Nat.le_of_ble_eq_true rfl, Nat.le_of_ble_eq_true rfl⟩ ⟨rfl, rfl⟩ ⟨Nat.zero_le _, Nat.zero_le _⟩ 1 0 rfl rfl rfl [1, 2, 3, 4] rfl rfl rfl rfl (Nat.le_of_ble_eq_true rfl) dX6_take_27 (wa_c c1_same (wa_c rfl (wa_c bC_same (wa_c rfl rfl)))) rfl ?_
    refine kw_aload_n X dX6_take_30 rfl 0 rfl ?_
    refine kb_get X inX6 0 0 rfl rfl rfl 0 (by decide) rfl gw_203 rfl dX6_take_31 ?_
    refine kb_getN X inX3 1 0 rfl rfl rfl 0 (by decide) rfl nw_22 rfl dX6_take_34 ?_
    refine kb_getN X inX0 2 0 rfl rfl rfl 6 (by decide) rfl nw_16 rfl dX6_take_37 ?_
    obtain ⟨rfl, rfl, rfl, rfl, rfl, rfl⟩ := ti6 hF
    exact hret _ _ (vp_nar_int _) dX6_take_40
  · replace hF := (if_neg q1).symm.trans hF
    refine kw_iconst X dX6_take_9 ci_m1 ?_
    obtain ⟨rfl, rfl, rfl, rfl, rfl, rfl⟩ := ti6 hF
    exact hret _ _ (vp_nar_int _) dX6_take_10
-- X6_take_v1
def f_X6_take_v1 (c : CV) (s0 : CV) (s1 : CV) (k0 : Int32) (k1 : Int32) (g : Nat → SV) (nx : Nat) (sz : Int32) (p1 : Int32) : Int32 × CV × Int32 × (Nat → SV) × Nat × Int32 :=
  (if (f_X6_outside p1 0 1) = 0 then (pl3 (f_X1_record g nx sz c s0 s1 k0 k1) (fun (m2 : Nat → SV) (m3 : Nat) (b4 : Int32) => (pl2 (f_X3_keep_v1 c p1) (fun (m5 : CV) (b6 : Int32) => (c.2.2.2.2.2.2.2.2.2.2.1, m5, b6, m2, m3, b4))))) else ((-1), s1, k1, g, nx, sz))
abbrev rm_X6_take_v1 : Room := { frames := 6, cells := 0, slots := 0, locals := 132 }
set_option maxHeartbeats 4000000 in
set_option maxRecDepth 100000 in
theorem c_X6_take_v1 (l : Launch) (D : va_G) (cI cC cR : ClassId) (h0 h1 t0 t1 : Nat) (a b d ah : Nat → Nat) (c : CV) (s0 : CV) (s1 : CV) (k0 : Int32) (k1 : Int32) (g : Nat → SV) (nx : Nat) (sz : Int32) (ch : Nat → Int32) (len : Int32) (cur : Int32) (verb : Int32) (fi : Int32) (se : Int32) (p1 : Int32) (hb_k0 : k0 = 0 ∨ k0 = 1) (hb_k1 : k1 = 0 ∨ k1 = 1) (hnx : nx < 5) (hb_g : ∀ i, ((g i).2.2.2.1 = 0 ∨ (g i).2.2.2.1 = 1) ∧ ((g i).2.2.2.2 = 0 ∨ (g i).2.2.2.2 = 1)) (hs : ¬ p1 = 0) (r : Int32) (s1' : CV) (k1' : Int32) (g' : Nat → SV) (nx' : Nat) (sz' : Int32) (hF : f_X6_take_v1 c s0 s1 k0 k1 g nx sz p1 = (r, s1', k1', g', nx', sz')) : MEq l yX6_take cX6_take 2 (some .int) rm_X6_take_v1 D (TY cI cC cR) [.ref h0, .int p1] (wj [[(h0, .inr (6, [.ref h1, .ref (ah 0), .ref t0]))], [(h1, .inr (3, [.ref (a 0), .ref (b 0), .ref (d 0), .int k0, .int k1]))], bC cI a c, bC cI b s0, bC cI d s1, bH cI cR ah g nx sz, wX4 cC t0 t1 ch len cur verb fi se]) (wj [[(h0, .inr (6, [.ref h1, .ref (ah 0), .ref t0]))], [(h1, .inr (3, [.ref (a 0), .ref (b 0), .ref (d 0), .int k0, .int k1']))], bC cI a c, bC cI b s0, bC cI d s1', bH cI cR ah g' nx' sz', wX4 cC t0 t1 ch len cur verb fi se]) (some (.int r)) := by
  refine me_e pn_X6 (Nat.le_of_ble_eq_true rfl) rfl (fun Γ X E hret => ?_)
  unfold f_X6_take_v1 at hF
  refine kw_iload_n X dX6_take_0 rfl 1 rfl ?_
  refine kw_iconst X dX6_take_1 ci_0 ?_
  refine kw_iconst X dX6_take_2 ci_1 ?_
  refine kw_sp X (r := .int (f_X6_outside p1 0 1)) (As := [.int p1, .int 0, .int 1]) (st := []) (c_X6_outside l D cI cC cR p1 0 1 (f_X6_outside p1 0 1) rfl) vl_X6_101 yv_X6_outside ⟨Nat.le_of_ble_eq_true rfl, Nat.le_of_ble_eq_true rfl⟩ ⟨rfl, rfl⟩ ⟨Nat.zero_le _, Nat.zero_le _⟩ [] rfl rfl rfl rfl (Nat.le_of_ble_eq_true rfl) dX6_take_3 ?_
  refine kw_if_eq X 11 dX6_take_6 (by decide) (fun q1 => ?_) (fun q1 => ?_)
  · replace hF := (if_pos q1).symm.trans hF
    refine kw_aload_n X dX6_take_11 rfl 0 rfl ?_
    refine kb_get X inX6 0 0 rfl rfl rfl 1 (by decide) rfl gw_204 rfl dX6_take_12 ?_
    refine kw_aload_n X dX6_take_15 rfl 0 rfl ?_
    refine kb_get X inX6 0 0 rfl rfl rfl 0 (by decide) rfl gw_203 rfl dX6_take_16 ?_
    obtain ⟨m2, m3, b4, hx4, hF⟩ := pl3_ex hF
    refine kb_mev X (As := [.ref h1]) (st := []) (bs' := [[(h0, .inr (6, [.ref h1, .ref (ah 0), .ref t0]))], [(h1, .inr (3, [.ref (a 0), .ref (b 0), .ref (d 0), .int k0, .int k1]))], bC cI a c, bC cI b s0, bC cI d s1, bH cI cR ah m2 m3 b4, wX4 cC t0 t1 ch len cur verb fi se]) E (c_X1_record l D cI cC cR ah h1 a b d g nx sz c s0 s1 k0 k1 hnx hb_k0 hb_k1 m2 m3 b4 hx4) vl_X6_40 yv_X1_record ⟨Nat.le_of_ble_eq_true rfl, Nat.le_of_ble_eq_true rfl⟩ ⟨rfl, rfl⟩ ⟨Nat.zero_le _, Nat.zero_le _⟩ 5 0 rfl rfl rfl [5, 1, 2, 3, 4] rfl rfl rfl rfl (Nat.le_of_ble_eq_true rfl) dX6_take_19 (wa_c bH_same (wa_c rfl (wa_c rfl (wa_c rfl (wa_c rfl rfl))))) rfl ?_
    refine kw_aload_n X dX6_take_22 rfl 0 rfl ?_
    refine kb_get X inX6 0 0 rfl rfl rfl 0 (by decide) rfl gw_203 rfl dX6_take_23 ?_
    refine kw_iload_n X dX6_take_26 rfl 1 rfl ?_
    obtain ⟨m5, b6, hx6, hF⟩ := pl2_ex hF
    refine kb_mev X (As := [.int p1]) (st := []) (bs' := [[(h0, .inr (6, [.ref h1, .ref (ah 0), .ref t0]))], [(h1, .inr (3, [.ref (a 0), .ref (b 0), .ref (d 0), .int k0, .int b6]))], bC cI a c, bC cI b s0, bC cI d m5, bH cI cR ah m2 m3 b4, wX4 cC t0 t1 ch len cur verb fi se]) E (c_X3_keep_v1 l D cI cC cR h1 a b d c s0 s1 k0 k1 p1 hs m5 b6 hx6) vl_X6_105 yv_X3_keep ⟨Nat.le_of_ble_eq_true rfl, Nat.le_of_ble_eq_true rfl⟩ ⟨rfl, rfl⟩ ⟨Nat.zero_le _, Nat.zero_le _⟩ 1 0 rfl rfl rfl [1, 2, 3, 4] rfl rfl rfl rfl (Nat.le_of_ble_eq_true rfl) dX6_take_27 (wa_c c1_same (wa_c rfl (wa_c rfl (wa_c bC_same rfl)))) rfl ?_
    refine kw_aload_n X dX6_take_30 rfl 0 rfl ?_
    refine kb_get X inX6 0 0 rfl rfl rfl 0 (by decide) rfl gw_203 rfl dX6_take_31 ?_
    refine kb_getN X inX3 1 0 rfl rfl rfl 0 (by decide) rfl nw_22 rfl dX6_take_34 ?_
    refine kb_getN X inX0 2 0 rfl rfl rfl 6 (by decide) rfl nw_16 rfl dX6_take_37 ?_
    obtain ⟨rfl, rfl, rfl, rfl, rfl, rfl⟩ := ti6 hF
    exact hret _ _ (vp_nar_int _) dX6_take_40
  · replace hF := (if_neg q1).symm.trans hF
    refine kw_iconst X dX6_take_9 ci_m1 ?_
    obtain ⟨rfl, rfl, rfl, rfl, rfl, rfl⟩ := ti6 hF
    exact hret _ _ (vp_nar_int _) dX6_take_10
-- X6_restore_v0
def f_X6_restore_v0 (c : CV) (s0 : CV) (s1 : CV) (k0 : Int32) (k1 : Int32) (g : Nat → SV) (nx : Nat) (sz : Int32) (p1 : Int32) : Int32 × CV × (Nat → SV) × Nat × Int32 :=
  (if (f_X6_outside p1 0 1) = 0 then (if (f_X3_isKept k0 k1 p1) = 0 then ((-2), c, g, nx, sz) else (pl3 (f_X1_record g nx sz c s0 s1 k0 k1) (fun (m3 : Nat → SV) (m4 : Nat) (b5 : Int32) => ((f_X3_bringUp_v0 s0 p1).2.2.2.2.2.2.2.2.2.2.1, (f_X3_bringUp_v0 s0 p1), m3, m4, b5)))) else ((-1), c, g, nx, sz))
abbrev rm_X6_restore_v0 : Room := { frames := 6, cells := 0, slots := 0, locals := 132 }
set_option maxHeartbeats 4000000 in
set_option maxRecDepth 100000 in
theorem c_X6_restore_v0 (l : Launch) (D : va_G) (cI cC cR : ClassId) (h0 h1 t0 t1 : Nat) (a b d ah : Nat → Nat) (c : CV) (s0 : CV) (s1 : CV) (k0 : Int32) (k1 : Int32) (g : Nat → SV) (nx : Nat) (sz : Int32) (ch : Nat → Int32) (len : Int32) (cur : Int32) (verb : Int32) (fi : Int32) (se : Int32) (p1 : Int32) (hb_k0 : k0 = 0 ∨ k0 = 1) (hb_k1 : k1 = 0 ∨ k1 = 1) (hnx : nx < 5) (hb_g : ∀ i, ((g i).2.2.2.1 = 0 ∨ (g i).2.2.2.1 = 1) ∧ ((g i).2.2.2.2 = 0 ∨ (g i).2.2.2.2 = 1)) (hs : p1 = 0) (r : Int32) (c' : CV) (g' : Nat → SV) (nx' : Nat) (sz' : Int32) (hF : f_X6_restore_v0 c s0 s1 k0 k1 g nx sz p1 = (r, c', g', nx', sz')) : MEq l yX6_restore cX6_restore 2 (some .int) rm_X6_restore_v0 D (TY cI cC cR) [.ref h0, .int p1] (wj [[(h0, .inr (6, [.ref h1, .ref (ah 0), .ref t0]))], [(h1, .inr (3, [.ref (a 0), .ref (b 0), .ref (d 0), .int k0, .int k1]))], bC cI a c, bC cI b s0, bC cI d s1, bH cI cR ah g nx sz, wX4 cC t0 t1 ch len cur verb fi se]) (wj [[(h0, .inr (6, [.ref h1, .ref (ah 0), .ref t0]))], [(h1, .inr (3, [.ref (a 0), .ref (b 0), .ref (d 0), .int k0, .int k1]))], bC cI a c', bC cI b s0, bC cI d s1, bH cI cR ah g' nx' sz', wX4 cC t0 t1 ch len cur verb fi se]) (some (.int r)) := by
  refine me_e pn_X6 (Nat.le_of_ble_eq_true rfl) rfl (fun Γ X E hret => ?_)
  unfold f_X6_restore_v0 at hF
  refine kw_iload_n X dX6_restore_0 rfl 1 rfl ?_
  refine kw_iconst X dX6_restore_1 ci_0 ?_
  refine kw_iconst X dX6_restore_2 ci_1 ?_
  refine kw_sp X (r := .int (f_X6_outside p1 0 1)) (As := [.int p1, .int 0, .int 1]) (st := []) (c_X6_outside l D cI cC cR p1 0 1 (f_X6_outside p1 0 1) rfl) vl_X6_101 yv_X6_outside ⟨Nat.le_of_ble_eq_true rfl, Nat.le_of_ble_eq_true rfl⟩ ⟨rfl, rfl⟩ ⟨Nat.zero_le _, Nat.zero_le _⟩ [] rfl rfl rfl rfl (Nat.le_of_ble_eq_true rfl) dX6_restore_3 ?_
  refine kw_if_eq X 11 dX6_restore_6 (by decide) (fun q1 => ?_) (fun q1 => ?_)
  · replace hF := (if_pos q1).symm.trans hF
    refine kw_aload_n X dX6_restore_11 rfl 0 rfl ?_
    refine kb_get X inX6 0 0 rfl rfl rfl 0 (by decide) rfl gw_203 rfl dX6_restore_12 ?_
    refine kw_iload_n X dX6_restore_15 rfl 1 rfl ?_
    refine kb_mp X (r := .int (f_X3_isKept k0 k1 p1)) (As := [.int p1]) (st := []) (c_X3_isKept l D cI cC cR h1 a b d c s0 s1 k0 k1 p1 hb_k0 hb_k1 (f_X3_isKept k0 k1 p1) rfl) vl_X6_113 yv_X3_isKept ⟨Nat.le_of_ble_eq_true rfl, Nat.le_of_ble_eq_true rfl⟩ ⟨rfl, rfl⟩ ⟨Nat.zero_le _, Nat.zero_le _⟩ 1 0 rfl rfl rfl [1, 2, 3, 4] rfl rfl rfl rfl (Nat.le_of_ble_eq_true rfl) dX6_restore_16 ?_
    refine kw_if_ne X 25 dX6_restore_19 (by decide) (fun q2 => ?_) (fun q2 => ?_)
    · replace hF := (if_neg q2).symm.trans hF
      refine kw_aload_n X dX6_restore_25 rfl 0 rfl ?_
      refine kb_get X inX6 0 0 rfl rfl rfl 1 (by decide) rfl gw_204 rfl dX6_restore_26 ?_
      refine kw_aload_n X dX6_restore_29 rfl 0 rfl ?_
      refine kb_get X inX6 0 0 rfl rfl rfl 0 (by decide) rfl gw_203 rfl dX6_restore_30 ?_
      obtain ⟨m3, m4, b5, hx5, hF⟩ := pl3_ex hF
      refine kb_mev X (As := [.ref h1]) (st := []) (bs' := [[(h0, .inr (6, [.ref h1, .ref (ah 0), .ref t0]))], [(h1, .inr (3, [.ref (a 0), .ref (b 0), .ref (d 0), .int k0, .int k1]))], bC cI a c, bC cI b s0, bC cI d s1, bH cI cR ah m3 m4 b5, wX4 cC t0 t1 ch len cur verb fi se]) E (c_X1_record l D cI cC cR ah h1 a b d g nx sz c s0 s1 k0 k1 hnx hb_k0 hb_k1 m3 m4 b5 hx5) vl_X6_40 yv_X1_record ⟨Nat.le_of_ble_eq_true rfl, Nat.le_of_ble_eq_true rfl⟩ ⟨rfl, rfl⟩ ⟨Nat.zero_le _, Nat.zero_le _⟩ 5 0 rfl rfl rfl [5, 1, 2, 3, 4] rfl rfl rfl rfl (Nat.le_of_ble_eq_true rfl) dX6_restore_33 (wa_c bH_same (wa_c rfl (wa_c rfl (wa_c rfl (wa_c rfl rfl))))) rfl ?_
      refine kw_aload_n X dX6_restore_36 rfl 0 rfl ?_
      refine kb_get X inX6 0 0 rfl rfl rfl 0 (by decide) rfl gw_203 rfl dX6_restore_37 ?_
      refine kw_iload_n X dX6_restore_40 rfl 1 rfl ?_
      refine kb_mev X (As := [.int p1]) (st := []) (bs' := [[(h0, .inr (6, [.ref h1, .ref (ah 0), .ref t0]))], [(h1, .inr (3, [.ref (a 0), .ref (b 0), .ref (d 0), .int k0, .int k1]))], bC cI a (f_X3_bringUp_v0 s0 p1), bC cI b s0, bC cI d s1, bH cI cR ah m3 m4 b5, wX4 cC t0 t1 ch len cur verb fi se]) E (c_X3_bringUp_v0 l D cI cC cR h1 a b d c s0 s1 k0 k1 p1 hs (f_X3_bringUp_v0 s0 p1) rfl) vl_X6_117 yv_X3_bringUp ⟨Nat.le_of_ble_eq_true rfl, Nat.le_of_ble_eq_true rfl⟩ ⟨rfl, rfl⟩ ⟨Nat.zero_le _, Nat.zero_le _⟩ 1 0 rfl rfl rfl [1, 2, 3, 4] rfl rfl rfl rfl (Nat.le_of_ble_eq_true rfl) dX6_restore_41 (wa_c rfl (wa_c bC_same (wa_c rfl (wa_c rfl rfl)))) rfl ?_
      refine kw_aload_n X dX6_restore_44 rfl 0 rfl ?_
      refine kb_get X inX6 0 0 rfl rfl rfl 0 (by decide) rfl gw_203 rfl dX6_restore_45 ?_
      refine kb_getN X inX3 1 0 rfl rfl rfl 0 (by decide) rfl nw_22 rfl dX6_restore_48 ?_
      refine kb_getN X inX0 2 0 rfl rfl rfl 6 (by decide) rfl nw_16 rfl dX6_restore_51 ?_
      obtain ⟨rfl, rfl, rfl, rfl, rfl⟩ := ti5 hF
      exact hret _ _ (vp_nar_int _) dX6_restore_54
    · replace hF := (if_pos q2).symm.trans hF
      refine kw_bipush X dX6_restore_22 cb_m2 ?_
      obtain ⟨rfl, rfl, rfl, rfl, rfl⟩ := ti5 hF
      exact hret _ _ (vp_nar_int _) dX6_restore_24
  · replace hF := (if_neg q1).symm.trans hF
    refine kw_iconst X dX6_restore_9 ci_m1 ?_
    obtain ⟨rfl, rfl, rfl, rfl, rfl⟩ := ti5 hF
    exact hret _ _ (vp_nar_int _) dX6_restore_10
-- X6_restore_v1
def f_X6_restore_v1 (c : CV) (s0 : CV) (s1 : CV) (k0 : Int32) (k1 : Int32) (g : Nat → SV) (nx : Nat) (sz : Int32) (p1 : Int32) : Int32 × CV × (Nat → SV) × Nat × Int32 :=
  (if (f_X6_outside p1 0 1) = 0 then (if (f_X3_isKept k0 k1 p1) = 0 then ((-2), c, g, nx, sz) else (pl3 (f_X1_record g nx sz c s0 s1 k0 k1) (fun (m3 : Nat → SV) (m4 : Nat) (b5 : Int32) => ((f_X3_bringUp_v1 s1 p1).2.2.2.2.2.2.2.2.2.2.1, (f_X3_bringUp_v1 s1 p1), m3, m4, b5)))) else ((-1), c, g, nx, sz))
abbrev rm_X6_restore_v1 : Room := { frames := 6, cells := 0, slots := 0, locals := 132 }
set_option maxHeartbeats 4000000 in
set_option maxRecDepth 100000 in
theorem c_X6_restore_v1 (l : Launch) (D : va_G) (cI cC cR : ClassId) (h0 h1 t0 t1 : Nat) (a b d ah : Nat → Nat) (c : CV) (s0 : CV) (s1 : CV) (k0 : Int32) (k1 : Int32) (g : Nat → SV) (nx : Nat) (sz : Int32) (ch : Nat → Int32) (len : Int32) (cur : Int32) (verb : Int32) (fi : Int32) (se : Int32) (p1 : Int32) (hb_k0 : k0 = 0 ∨ k0 = 1) (hb_k1 : k1 = 0 ∨ k1 = 1) (hnx : nx < 5) (hb_g : ∀ i, ((g i).2.2.2.1 = 0 ∨ (g i).2.2.2.1 = 1) ∧ ((g i).2.2.2.2 = 0 ∨ (g i).2.2.2.2 = 1)) (hs : ¬ p1 = 0) (r : Int32) (c' : CV) (g' : Nat → SV) (nx' : Nat) (sz' : Int32) (hF : f_X6_restore_v1 c s0 s1 k0 k1 g nx sz p1 = (r, c', g', nx', sz')) : MEq l yX6_restore cX6_restore 2 (some .int) rm_X6_restore_v1 D (TY cI cC cR) [.ref h0, .int p1] (wj [[(h0, .inr (6, [.ref h1, .ref (ah 0), .ref t0]))], [(h1, .inr (3, [.ref (a 0), .ref (b 0), .ref (d 0), .int k0, .int k1]))], bC cI a c, bC cI b s0, bC cI d s1, bH cI cR ah g nx sz, wX4 cC t0 t1 ch len cur verb fi se]) (wj [[(h0, .inr (6, [.ref h1, .ref (ah 0), .ref t0]))], [(h1, .inr (3, [.ref (a 0), .ref (b 0), .ref (d 0), .int k0, .int k1]))], bC cI a c', bC cI b s0, bC cI d s1, bH cI cR ah g' nx' sz', wX4 cC t0 t1 ch len cur verb fi se]) (some (.int r)) := by
  refine me_e pn_X6 (Nat.le_of_ble_eq_true rfl) rfl (fun Γ X E hret => ?_)
  unfold f_X6_restore_v1 at hF
  refine kw_iload_n X dX6_restore_0 rfl 1 rfl ?_
  refine kw_iconst X dX6_restore_1 ci_0 ?_
  refine kw_iconst X dX6_restore_2 ci_1 ?_
  refine kw_sp X (r := .int (f_X6_outside p1 0 1)) (As := [.int p1, .int 0, .int 1]) (st := []) (c_X6_outside l D cI cC cR p1 0 1 (f_X6_outside p1 0 1) rfl) vl_X6_101 yv_X6_outside ⟨Nat.le_of_ble_eq_true rfl, Nat.le_of_ble_eq_true rfl⟩ ⟨rfl, rfl⟩ ⟨Nat.zero_le _, Nat.zero_le _⟩ [] rfl rfl rfl rfl (Nat.le_of_ble_eq_true rfl) dX6_restore_3 ?_
  refine kw_if_eq X 11 dX6_restore_6 (by decide) (fun q1 => ?_) (fun q1 => ?_)
  · replace hF := (if_pos q1).symm.trans hF
    refine kw_aload_n X dX6_restore_11 rfl 0 rfl ?_
    refine kb_get X inX6 0 0 rfl rfl rfl 0 (by decide) rfl gw_203 rfl dX6_restore_12 ?_
    refine kw_iload_n X dX6_restore_15 rfl 1 rfl ?_
    refine kb_mp X (r := .int (f_X3_isKept k0 k1 p1)) (As := [.int p1]) (st := []) (c_X3_isKept l D cI cC cR h1 a b d c s0 s1 k0 k1 p1 hb_k0 hb_k1 (f_X3_isKept k0 k1 p1) rfl) vl_X6_113 yv_X3_isKept ⟨Nat.le_of_ble_eq_true rfl, Nat.le_of_ble_eq_true rfl⟩ ⟨rfl, rfl⟩ ⟨Nat.zero_le _, Nat.zero_le _⟩ 1 0 rfl rfl rfl [1, 2, 3, 4] rfl rfl rfl rfl (Nat.le_of_ble_eq_true rfl) dX6_restore_16 ?_
    refine kw_if_ne X 25 dX6_restore_19 (by decide) (fun q2 => ?_) (fun q2 => ?_)
    · replace hF := (if_neg q2).symm.trans hF
      refine kw_aload_n X dX6_restore_25 rfl 0 rfl ?_
      refine kb_get X inX6 0 0 rfl rfl rfl 1 (by decide) rfl gw_204 rfl dX6_restore_26 ?_
      refine kw_aload_n X dX6_restore_29 rfl 0 rfl ?_
      refine kb_get X inX6 0 0 rfl rfl rfl 0 (by decide) rfl gw_203 rfl dX6_restore_30 ?_
      obtain ⟨m3, m4, b5, hx5, hF⟩ := pl3_ex hF
      refine kb_mev X (As := [.ref h1]) (st := []) (bs' := [[(h0, .inr (6, [.ref h1, .ref (ah 0), .ref t0]))], [(h1, .inr (3, [.ref (a 0), .ref (b 0), .ref (d 0), .int k0, .int k1]))], bC cI a c, bC cI b s0, bC cI d s1, bH cI cR ah m3 m4 b5, wX4 cC t0 t1 ch len cur verb fi se]) E (c_X1_record l D cI cC cR ah h1 a b d g nx sz c s0 s1 k0 k1 hnx hb_k0 hb_k1 m3 m4 b5 hx5) vl_X6_40 yv_X1_record ⟨Nat.le_of_ble_eq_true rfl, Nat.le_of_ble_eq_true rfl⟩ ⟨rfl, rfl⟩ ⟨Nat.zero_le _, Nat.zero_le _⟩ 5 0 rfl rfl rfl [5, 1, 2, 3, 4] rfl rfl rfl rfl (Nat.le_of_ble_eq_true rfl) dX6_restore_33 (wa_c bH_same (wa_c rfl (wa_c rfl (wa_c rfl (wa_c rfl rfl))))) rfl ?_
      refine kw_aload_n X dX6_restore_36 rfl 0 rfl ?_
      refine kb_get X inX6 0 0 rfl rfl rfl 0 (by decide) rfl gw_203 rfl dX6_restore_37 ?_
      refine kw_iload_n X dX6_restore_40 rfl 1 rfl ?_
      refine kb_mev X (As := [.int p1]) (st := []) (bs' := [[(h0, .inr (6, [.ref h1, .ref (ah 0), .ref t0]))], [(h1, .inr (3, [.ref (a 0), .ref (b 0), .ref (d 0), .int k0, .int k1]))], bC cI a (f_X3_bringUp_v1 s1 p1), bC cI b s0, bC cI d s1, bH cI cR ah m3 m4 b5, wX4 cC t0 t1 ch len cur verb fi se]) E (c_X3_bringUp_v1 l D cI cC cR h1 a b d c s0 s1 k0 k1 p1 hs (f_X3_bringUp_v1 s1 p1) rfl) vl_X6_117 yv_X3_bringUp ⟨Nat.le_of_ble_eq_true rfl, Nat.le_of_ble_eq_true rfl⟩ ⟨rfl, rfl⟩ ⟨Nat.zero_le _, Nat.zero_le _⟩ 1 0 rfl rfl rfl [1, 2, 3, 4] rfl rfl rfl rfl (Nat.le_of_ble_eq_true rfl) dX6_restore_41 (wa_c rfl (wa_c bC_same (wa_c rfl (wa_c rfl rfl)))) rfl ?_
      refine kw_aload_n X dX6_restore_44 rfl 0 rfl ?_
      refine kb_get X inX6 0 0 rfl rfl rfl 0 (by decide) rfl gw_203 rfl dX6_restore_45 ?_
      refine kb_getN X inX3 1 0 rfl rfl rfl 0 (by decide) rfl nw_22 rfl dX6_restore_48 ?_
      refine kb_getN X inX0 2 0 rfl rfl rfl 6 (by decide) rfl nw_16 rfl dX6_restore_51 ?_
      obtain ⟨rfl, rfl, rfl, rfl, rfl⟩ := ti5 hF
      exact hret _ _ (vp_nar_int _) dX6_restore_54
    · replace hF := (if_pos q2).symm.trans hF
      refine kw_bipush X dX6_restore_22 cb_m2 ?_
      obtain ⟨rfl, rfl, rfl, rfl, rfl⟩ := ti5 hF
      exact hret _ _ (vp_nar_int _) dX6_restore_24
  · replace hF := (if_neg q1).symm.trans hF
    refine kw_iconst X dX6_restore_9 ci_m1 ?_
    obtain ⟨rfl, rfl, rfl, rfl, rfl⟩ := ti5 hF
    exact hret _ _ (vp_nar_int _) dX6_restore_10
