theorem w4_fst {cC : ClassId} {a b : Nat} {ch : Nat → Int32} {x1 x2 x3 x4 x5 : Int32} : (wX4 cC a b ch x1 x2 x3 x4 x5).map (·.1) = [a, b] := rfl
theorem w4_same {cC : ClassId} {a b : Nat} {ch ch2 : Nat → Int32} {x1 x2 x3 x4 x5 y1 y2 y3 y4 y5 : Int32} : (wX4 cC a b ch x1 x2 x3 x4 x5).map (·.1) = (wX4 cC a b ch2 y1 y2 y3 y4 y5).map (·.1) := w4_fst.trans w4_fst.symm
def f_X6_take (c : CV) (s0 : CV) (s1 : CV) (k0 : Int32) (k1 : Int32) (g : Nat → SV) (nx : Nat) (sz : Int32) (p1 : Int32) : Int32 × CV × CV × Int32 × Int32 × (Nat → SV) × Nat × Int32 := if p1 = 0 then pl6 (f_X6_take_v0 c s0 s1 k0 k1 g nx sz p1) (fun (r_ : Int32) (s0_ : CV) (k0_ : Int32) (g_ : Nat → SV) (nx_ : Nat) (sz_ : Int32) => (r_, s0_, s1, k0_, k1, g_, nx_, sz_)) else pl6 (f_X6_take_v1 c s0 s1 k0 k1 g nx sz p1) (fun (r_ : Int32) (s1_ : CV) (k1_ : Int32) (g_ : Nat → SV) (nx_ : Nat) (sz_ : Int32) => (r_, s0, s1_, k0, k1_, g_, nx_, sz_))
abbrev rm_X6_take : Room := rm_X6_take_v0
theorem c_X6_take (l : Launch) (D : va_G) (cI cC cR : ClassId) (h0 h1 t0 t1 : Nat) (a b d ah : Nat → Nat) (c : CV) (s0 : CV) (s1 : CV) (k0 : Int32) (k1 : Int32) (g : Nat → SV) (nx : Nat) (sz : Int32) (ch : Nat → Int32) (len : Int32) (cur : Int32) (verb : Int32) (fi : Int32) (se : Int32) (p1 : Int32) (hb_k0 : k0 = 0 ∨ k0 = 1) (hb_k1 : k1 = 0 ∨ k1 = 1) (hnx : nx < 5) (hb_g : ∀ i, ((g i).2.2.2.1 = 0 ∨ (g i).2.2.2.1 = 1) ∧ ((g i).2.2.2.2 = 0 ∨ (g i).2.2.2.2 = 1)) (r : Int32) (s0' : CV) (s1' : CV) (k0' : Int32) (k1' : Int32) (g' : Nat → SV) (nx' : Nat) (sz' : Int32) (hF : f_X6_take c s0 s1 k0 k1 g nx sz p1 = (r, s0', s1', k0', k1', g', nx', sz')) : MEq l yX6_take cX6_take 2 (some .int) rm_X6_take D (TY cI cC cR) [.ref h0, .int p1] (wj [[(h0, .inr (6, [.ref h1, .ref (ah 0), .ref t0]))], [(h1, .inr (3, [.ref (a 0), .ref (b 0), .ref (d 0), .int k0, .int k1]))], bC cI a c, bC cI b s0, bC cI d s1, bH cI cR ah g nx sz, wX4 cC t0 t1 ch len cur verb fi se]) (wj [[(h0, .inr (6, [.ref h1, .ref (ah 0), .ref t0]))], [(h1, .inr (3, [.ref (a 0), .ref (b 0), .ref (d 0), .int k0', .int k1']))], bC cI a c, bC cI b s0', bC cI d s1', bH cI cR ah g' nx' sz', wX4 cC t0 t1 ch len cur verb fi se]) (some (.int r)) := by
  unfold f_X6_take at hF
  by_cases hs : p1 = 0
  · rw [if_pos hs] at hF
    obtain ⟨y0, y1, y2, y3, y4, y5, hx, hF⟩ := pl6_ex hF
    obtain ⟨rfl, rfl, rfl, rfl, rfl, rfl, rfl, rfl⟩ := ti8 hF
    exact c_X6_take_v0 l D cI cC cR h0 h1 t0 t1 a b d ah c s0 s1 k0 k1 g nx sz ch len cur verb fi se p1 hb_k0 hb_k1 hnx hb_g hs _ _ _ _ _ _ hx
  · rw [if_neg hs] at hF
    obtain ⟨y0, y1, y2, y3, y4, y5, hx, hF⟩ := pl6_ex hF
    obtain ⟨rfl, rfl, rfl, rfl, rfl, rfl, rfl, rfl⟩ := ti8 hF
    exact c_X6_take_v1 l D cI cC cR h0 h1 t0 t1 a b d ah c s0 s1 k0 k1 g nx sz ch len cur verb fi se p1 hb_k0 hb_k1 hnx hb_g hs _ _ _ _ _ _ hx

def f_X6_restore (c : CV) (s0 : CV) (s1 : CV) (k0 : Int32) (k1 : Int32) (g : Nat → SV) (nx : Nat) (sz : Int32) (p1 : Int32) : Int32 × CV × (Nat → SV) × Nat × Int32 := if p1 = 0 then pl5 (f_X6_restore_v0 c s0 s1 k0 k1 g nx sz p1) (fun (r_ : Int32) (c_ : CV) (g_ : Nat → SV) (nx_ : Nat) (sz_ : Int32) => (r_, c_, g_, nx_, sz_)) else pl5 (f_X6_restore_v1 c s0 s1 k0 k1 g nx sz p1) (fun (r_ : Int32) (c_ : CV) (g_ : Nat → SV) (nx_ : Nat) (sz_ : Int32) => (r_, c_, g_, nx_, sz_))
abbrev rm_X6_restore : Room := rm_X6_restore_v0
theorem c_X6_restore (l : Launch) (D : va_G) (cI cC cR : ClassId) (h0 h1 t0 t1 : Nat) (a b d ah : Nat → Nat) (c : CV) (s0 : CV) (s1 : CV) (k0 : Int32) (k1 : Int32) (g : Nat → SV) (nx : Nat) (sz : Int32) (ch : Nat → Int32) (len : Int32) (cur : Int32) (verb : Int32) (fi : Int32) (se : Int32) (p1 : Int32) (hb_k0 : k0 = 0 ∨ k0 = 1) (hb_k1 : k1 = 0 ∨ k1 = 1) (hnx : nx < 5) (hb_g : ∀ i, ((g i).2.2.2.1 = 0 ∨ (g i).2.2.2.1 = 1) ∧ ((g i).2.2.2.2 = 0 ∨ (g i).2.2.2.2 = 1)) (r : Int32) (c' : CV) (g' : Nat → SV) (nx' : Nat) (sz' : Int32) (hF : f_X6_restore c s0 s1 k0 k1 g nx sz p1 = (r, c', g', nx', sz')) : MEq l yX6_restore cX6_restore 2 (some .int) rm_X6_restore D (TY cI cC cR) [.ref h0, .int p1] (wj [[(h0, .inr (6, [.ref h1, .ref (ah 0), .ref t0]))], [(h1, .inr (3, [.ref (a 0), .ref (b 0), .ref (d 0), .int k0, .int k1]))], bC cI a c, bC cI b s0, bC cI d s1, bH cI cR ah g nx sz, wX4 cC t0 t1 ch len cur verb fi se]) (wj [[(h0, .inr (6, [.ref h1, .ref (ah 0), .ref t0]))], [(h1, .inr (3, [.ref (a 0), .ref (b 0), .ref (d 0), .int k0, .int k1]))], bC cI a c', bC cI b s0, bC cI d s1, bH cI cR ah g' nx' sz', wX4 cC t0 t1 ch len cur verb fi se]) (some (.int r)) := by
  unfold f_X6_restore at hF
  by_cases hs : p1 = 0
  · rw [if_pos hs] at hF
    obtain ⟨y0, y1, y2, y3, y4, hx, hF⟩ := pl5_ex hF
    obtain ⟨rfl, rfl, rfl, rfl, rfl⟩ := ti5 hF
    exact c_X6_restore_v0 l D cI cC cR h0 h1 t0 t1 a b d ah c s0 s1 k0 k1 g nx sz ch len cur verb fi se p1 hb_k0 hb_k1 hnx hb_g hs _ _ _ _ _ hx
  · rw [if_neg hs] at hF
    obtain ⟨y0, y1, y2, y3, y4, hx, hF⟩ := pl5_ex hF
    obtain ⟨rfl, rfl, rfl, rfl, rfl⟩ := ti5 hF
    exact c_X6_restore_v1 l D cI cC cR h0 h1 t0 t1 a b d ah c s0 s1 k0 k1 g nx sz ch len cur verb fi se p1 hb_k0 hb_k1 hnx hb_g hs _ _ _ _ _ hx

-- L_case0
def f_L_0 (Z : Nat) (c : CV) (s0 : CV) (s1 : CV) (k0 : Int32) (k1 : Int32) (g : Nat → SV) (nx : Nat) (sz : Int32) (q_p : Nat → Int32) (q_sv : Nat → Int32) (q_states : Int32) (sc1 : Int32) (sc2 : Int32) : Option (CV × (Nat → SV) × Nat × Int32 × (Nat → Int32) × (Nat → Int32) × Int32) :=
  (ob5 (f_X6_buy Z c s0 s1 k0 k1 g nx sz sc1 sc2) (fun (b1 : Int32) (m2 : CV) (m3 : Nat → SV) (m4 : Nat) (b5 : Int32) => (ob4 (f_X7_buy Z q_p q_sv q_states sc1 sc2) (fun (b6 : Int32) (m7 : Nat → Int32) (m8 : Nat → Int32) (b9 : Int32) => (if b1 = b6 then (some (m2, m3, m4, b5, m7, m8, b9)) else none)))))
set_option maxHeartbeats 4000000 in
set_option maxRecDepth 100000 in
theorem c_L_0 {Γ : KG} {w0 : Cond} (l : Launch) (D : va_G) (cI cC cR : ClassId) (sb L : Nat) (xs : Nat → Int32) (X : KX Γ l room_1 D (TY cI cC cR) code 4 "RibbedLoansLaw" w0) (E : KE Γ) (S : KL Γ sb L xs) {n z : Nat} (hnz : n ≤ room_1.cells ∧ z ≤ room_1.slots) (h0 h1 t0 t1 : Nat) (a b d ah : Nat → Nat) (mo0 mo1 mo2 mo3 mo4 : Nat) (c : CV) (s0 : CV) (s1 : CV) (k0 : Int32) (k1 : Int32) (g : Nat → SV) (nx : Nat) (sz : Int32) (ch : Nat → Int32) (len : Int32) (cur : Int32) (verb : Int32) (fi : Int32) (se : Int32) (q_p : Nat → Int32) (q_sv : Nat → Int32) (q_asd : Nat → Int32) (q_tx : Nat → Int32) (q_states : Int32) (q_len : Int32) (q_at_ : Int32) (q_letter : Int32) (q_one : Int32) (q_two : Int32) (q_number : Int32) (j : Nat) (hj : j + 3 < L) (hL : L ≤ 2048) (hb_k0 : k0 = 0 ∨ k0 = 1) (hb_k1 : k1 = 0 ∨ k1 = 1) (hnx : nx < 5) (hb_g : ∀ i, ((g i).2.2.2.1 = 0 ∨ (g i).2.2.2.1 = 1) ∧ ((g i).2.2.2.2 = 0 ∨ (g i).2.2.2.2 = 1)) (Z : Nat) (sc1 sc2 sc3 : Int32) (hs1 : xs (j + 1) = sc1) (hs2 : xs (j + 2) = sc2) (hs3 : xs (j + 3) = sc3) (c' : CV) (g' : Nat → SV) (nx' : Nat) (sz' : Int32) (q_p' : Nat → Int32) (q_sv' : Nat → Int32) (q_states' : Int32) (hF : f_L_0 Z c s0 s1 k0 k1 g nx sz q_p q_sv q_states sc1 sc2 = some (c', g', nx', sz', q_p', q_sv', q_states')) (kk : KW Γ n z (wj [[(h0, .inr (6, [.ref h1, .ref (ah 0), .ref t0]))], [(h1, .inr (3, [.ref (a 0), .ref (b 0), .ref (d 0), .int k0, .int k1]))], bC cI a c', bC cI b s0, bC cI d s1, bH cI cR ah g' nx' sz', wX4 cC t0 t1 ch len cur verb fi se, wX7 cI mo0 mo1 mo2 mo3 mo4 q_p' q_sv' q_asd q_tx q_states' q_len q_at_ q_letter q_one q_two q_number]) [(0, .ref sb), (1, .ref h0), (2, .ref mo0), (3, .int (nI j))] 843 []) : KW Γ n z (wj [[(h0, .inr (6, [.ref h1, .ref (ah 0), .ref t0]))], [(h1, .inr (3, [.ref (a 0), .ref (b 0), .ref (d 0), .int k0, .int k1]))], bC cI a c, bC cI b s0, bC cI d s1, bH cI cR ah g nx sz, wX4 cC t0 t1 ch len cur verb fi se, wX7 cI mo0 mo1 mo2 mo3 mo4 q_p q_sv q_asd q_tx q_states q_len q_at_ q_letter q_one q_two q_number]) [(0, .ref sb), (1, .ref h0), (2, .ref mo0), (3, .int (nI j))] 148 [] := by
  unfold f_L_0 at hF
  refine kw_aload_n X dL_law_148 rfl 1 rfl ?_
  refine kw_aload_n X dL_law_149 rfl 0 rfl ?_
  refine kw_iload_n X dL_law_150 rfl 3 rfl ?_
  refine kw_iconst X dL_law_151 ci_1 ?_
  refine kw_iadd X dL_law_152 ?_
  refine kl_sld (v := sc1) X S (ld_at (k := 1) (by decide) (by omega) hL).1 (by rw [(ld_at (k := 1) (by decide) (by omega) hL).2]; exact hs1) dL_law_153 ?_
  refine kw_aload_n X dL_law_154 rfl 0 rfl ?_
  refine kw_iload_n X dL_law_155 rfl 3 rfl ?_
  refine kw_iconst X dL_law_156 ci_2 ?_
  refine kw_iadd X dL_law_157 ?_
  refine kl_sld (v := sc2) X S (ld_at (k := 2) (by decide) (by omega) hL).1 (by rw [(ld_at (k := 2) (by decide) (by omega) hL).2]; exact hs2) dL_law_158 ?_
  obtain ⟨b1, m2, m3, m4, b5, hx5, hF⟩ := ob5_ex hF
  refine kb_mei X (r := .int b1) (As := [.int sc1, .int sc2]) (st := []) (bs' := [[(h0, .inr (6, [.ref h1, .ref (ah 0), .ref t0]))], [(h1, .inr (3, [.ref (a 0), .ref (b 0), .ref (d 0), .int k0, .int k1]))], bC cI a m2, bC cI b s0, bC cI d s1, bH cI cR ah m3 m4 b5, wX4 cC t0 t1 ch len cur verb fi se, wX7 cI mo0 mo1 mo2 mo3 mo4 q_p q_sv q_asd q_tx q_states q_len q_at_ q_letter q_one q_two q_number]) E (c_X6_buy l D cI cC cR h0 h1 t0 t1 a b d ah c s0 s1 k0 k1 g nx sz ch len cur verb fi se sc1 sc2 hb_k0 hb_k1 hnx hb_g Z b1 m2 m3 m4 b5 hx5) vl_L_13 yv_X6_buy ⟨Nat.le_of_ble_eq_true rfl, Nat.le_of_ble_eq_true rfl⟩ ⟨rfl, rfl⟩ hnz 0 0 rfl rfl rfl [0, 1, 2, 3, 4, 5, 6] rfl rfl rfl rfl (Nat.le_of_ble_eq_true rfl) dL_law_159 (wa_c rfl (wa_c rfl (wa_c bC_same (wa_c rfl (wa_c rfl (wa_c bH_same (wa_c rfl rfl))))))) rfl ?_
  refine kw_aload_n X dL_law_162 rfl 2 rfl ?_
  refine kw_aload_n X dL_law_163 rfl 0 rfl ?_
  refine kw_iload_n X dL_law_164 rfl 3 rfl ?_
  refine kw_iconst X dL_law_165 ci_1 ?_
  refine kw_iadd X dL_law_166 ?_
  refine kl_sld (v := sc1) X S (ld_at (k := 1) (by decide) (by omega) hL).1 (by rw [(ld_at (k := 1) (by decide) (by omega) hL).2]; exact hs1) dL_law_167 ?_
  refine kw_aload_n X dL_law_168 rfl 0 rfl ?_
  refine kw_iload_n X dL_law_169 rfl 3 rfl ?_
  refine kw_iconst X dL_law_170 ci_2 ?_
  refine kw_iadd X dL_law_171 ?_
  refine kl_sld (v := sc2) X S (ld_at (k := 2) (by decide) (by omega) hL).1 (by rw [(ld_at (k := 2) (by decide) (by omega) hL).2]; exact hs2) dL_law_172 ?_
  obtain ⟨b6, m7, m8, b9, hx9, hF⟩ := ob4_ex hF
  refine kb_aei X (r := .int b6) (As := [.int sc1, .int sc2]) (st := [.int b1]) (bs' := [[(h0, .inr (6, [.ref h1, .ref (ah 0), .ref t0]))], [(h1, .inr (3, [.ref (a 0), .ref (b 0), .ref (d 0), .int k0, .int k1]))], bC cI a m2, bC cI b s0, bC cI d s1, bH cI cR ah m3 m4 b5, wX4 cC t0 t1 ch len cur verb fi se, wX7 cI mo0 mo1 mo2 mo3 mo4 m7 m8 q_asd q_tx b9 q_len q_at_ q_letter q_one q_two q_number]) E (c_X7_buy l D cI cC cR mo0 mo1 mo2 mo3 mo4 q_p q_sv q_asd q_tx q_states q_len q_at_ q_letter q_one q_two q_number sc1 sc2 Z b6 m7 m8 b9 hx9) vl_L_17 yv_X7_buy ⟨Nat.le_of_ble_eq_true rfl, Nat.le_of_ble_eq_true rfl⟩ ⟨rfl, rfl⟩ hnz 7 0 rfl rfl rfl rfl rfl (Nat.le_of_ble_eq_true rfl) dL_law_173 [mo0, mo1, mo2, mo3, mo4] rfl rfl rfl ?_
  refine kw_icmp_eq X 843 dL_law_176 (by decide) (fun q10 => ?_) (fun q10 => ?_)
  · replace hF := (if_pos q10).symm.trans hF
    obtain ⟨rfl, rfl, rfl, rfl, rfl, rfl, rfl⟩ := si7 hF
    exact kk
  · replace hF := (if_neg q10).symm.trans hF
    refine kw_iconst X dL_law_179 ci_0 ?_
    exact none_some hF
-- L_case1
def f_L_1 (Z : Nat) (c : CV) (s0 : CV) (s1 : CV) (k0 : Int32) (k1 : Int32) (g : Nat → SV) (nx : Nat) (sz : Int32) (q_p : Nat → Int32) (q_sv : Nat → Int32) (q_states : Int32) (sc1 : Int32) (sc2 : Int32) : Option (CV × (Nat → SV) × Nat × Int32 × (Nat → Int32) × (Nat → Int32) × Int32) :=
  (pl5 (f_X6_set c s0 s1 k0 k1 g nx sz sc1 sc2) (fun (b1 : Int32) (m2 : CV) (m3 : Nat → SV) (m4 : Nat) (b5 : Int32) => (ob4 (f_X7_set Z q_p q_sv q_states sc1 sc2) (fun (b6 : Int32) (m7 : Nat → Int32) (m8 : Nat → Int32) (b9 : Int32) => (if b1 = b6 then (some (m2, m3, m4, b5, m7, m8, b9)) else none)))))
set_option maxHeartbeats 4000000 in
set_option maxRecDepth 100000 in
theorem c_L_1 {Γ : KG} {w0 : Cond} (l : Launch) (D : va_G) (cI cC cR : ClassId) (sb L : Nat) (xs : Nat → Int32) (X : KX Γ l room_1 D (TY cI cC cR) code 4 "RibbedLoansLaw" w0) (E : KE Γ) (S : KL Γ sb L xs) {n z : Nat} (hnz : n ≤ room_1.cells ∧ z ≤ room_1.slots) (h0 h1 t0 t1 : Nat) (a b d ah : Nat → Nat) (mo0 mo1 mo2 mo3 mo4 : Nat) (c : CV) (s0 : CV) (s1 : CV) (k0 : Int32) (k1 : Int32) (g : Nat → SV) (nx : Nat) (sz : Int32) (ch : Nat → Int32) (len : Int32) (cur : Int32) (verb : Int32) (fi : Int32) (se : Int32) (q_p : Nat → Int32) (q_sv : Nat → Int32) (q_asd : Nat → Int32) (q_tx : Nat → Int32) (q_states : Int32) (q_len : Int32) (q_at_ : Int32) (q_letter : Int32) (q_one : Int32) (q_two : Int32) (q_number : Int32) (j : Nat) (hj : j + 3 < L) (hL : L ≤ 2048) (hb_k0 : k0 = 0 ∨ k0 = 1) (hb_k1 : k1 = 0 ∨ k1 = 1) (hnx : nx < 5) (hb_g : ∀ i, ((g i).2.2.2.1 = 0 ∨ (g i).2.2.2.1 = 1) ∧ ((g i).2.2.2.2 = 0 ∨ (g i).2.2.2.2 = 1)) (Z : Nat) (sc1 sc2 sc3 : Int32) (hs1 : xs (j + 1) = sc1) (hs2 : xs (j + 2) = sc2) (hs3 : xs (j + 3) = sc3) (c' : CV) (g' : Nat → SV) (nx' : Nat) (sz' : Int32) (q_p' : Nat → Int32) (q_sv' : Nat → Int32) (q_states' : Int32) (hF : f_L_1 Z c s0 s1 k0 k1 g nx sz q_p q_sv q_states sc1 sc2 = some (c', g', nx', sz', q_p', q_sv', q_states')) (kk : KW Γ n z (wj [[(h0, .inr (6, [.ref h1, .ref (ah 0), .ref t0]))], [(h1, .inr (3, [.ref (a 0), .ref (b 0), .ref (d 0), .int k0, .int k1]))], bC cI a c', bC cI b s0, bC cI d s1, bH cI cR ah g' nx' sz', wX4 cC t0 t1 ch len cur verb fi se, wX7 cI mo0 mo1 mo2 mo3 mo4 q_p' q_sv' q_asd q_tx q_states' q_len q_at_ q_letter q_one q_two q_number]) [(0, .ref sb), (1, .ref h0), (2, .ref mo0), (3, .int (nI j))] 843 []) : KW Γ n z (wj [[(h0, .inr (6, [.ref h1, .ref (ah 0), .ref t0]))], [(h1, .inr (3, [.ref (a 0), .ref (b 0), .ref (d 0), .int k0, .int k1]))], bC cI a c, bC cI b s0, bC cI d s1, bH cI cR ah g nx sz, wX4 cC t0 t1 ch len cur verb fi se, wX7 cI mo0 mo1 mo2 mo3 mo4 q_p q_sv q_asd q_tx q_states q_len q_at_ q_letter q_one q_two q_number]) [(0, .ref sb), (1, .ref h0), (2, .ref mo0), (3, .int (nI j))] 181 [] := by
  unfold f_L_1 at hF
  refine kw_aload_n X dL_law_181 rfl 1 rfl ?_
  refine kw_aload_n X dL_law_182 rfl 0 rfl ?_
  refine kw_iload_n X dL_law_183 rfl 3 rfl ?_
  refine kw_iconst X dL_law_184 ci_1 ?_
  refine kw_iadd X dL_law_185 ?_
  refine kl_sld (v := sc1) X S (ld_at (k := 1) (by decide) (by omega) hL).1 (by rw [(ld_at (k := 1) (by decide) (by omega) hL).2]; exact hs1) dL_law_186 ?_
  refine kw_aload_n X dL_law_187 rfl 0 rfl ?_
  refine kw_iload_n X dL_law_188 rfl 3 rfl ?_
  refine kw_iconst X dL_law_189 ci_2 ?_
  refine kw_iadd X dL_law_190 ?_
  refine kl_sld (v := sc2) X S (ld_at (k := 2) (by decide) (by omega) hL).1 (by rw [(ld_at (k := 2) (by decide) (by omega) hL).2]; exact hs2) dL_law_191 ?_
  obtain ⟨b1, m2, m3, m4, b5, hx5, hF⟩ := pl5_ex hF
  refine kb_mei X (r := .int b1) (As := [.int sc1, .int sc2]) (st := []) (bs' := [[(h0, .inr (6, [.ref h1, .ref (ah 0), .ref t0]))], [(h1, .inr (3, [.ref (a 0), .ref (b 0), .ref (d 0), .int k0, .int k1]))], bC cI a m2, bC cI b s0, bC cI d s1, bH cI cR ah m3 m4 b5, wX4 cC t0 t1 ch len cur verb fi se, wX7 cI mo0 mo1 mo2 mo3 mo4 q_p q_sv q_asd q_tx q_states q_len q_at_ q_letter q_one q_two q_number]) E (c_X6_set l D cI cC cR h0 h1 t0 t1 a b d ah c s0 s1 k0 k1 g nx sz ch len cur verb fi se sc1 sc2 hb_k0 hb_k1 hnx hb_g b1 m2 m3 m4 b5 hx5) vl_L_18 yv_X6_set ⟨Nat.le_of_ble_eq_true rfl, Nat.le_of_ble_eq_true rfl⟩ ⟨rfl, rfl⟩ hnz 0 0 rfl rfl rfl [0, 1, 2, 3, 4, 5, 6] rfl rfl rfl rfl (Nat.le_of_ble_eq_true rfl) dL_law_192 (wa_c rfl (wa_c rfl (wa_c bC_same (wa_c rfl (wa_c rfl (wa_c bH_same (wa_c rfl rfl))))))) rfl ?_
  refine kw_aload_n X dL_law_195 rfl 2 rfl ?_
  refine kw_aload_n X dL_law_196 rfl 0 rfl ?_
  refine kw_iload_n X dL_law_197 rfl 3 rfl ?_
  refine kw_iconst X dL_law_198 ci_1 ?_
  refine kw_iadd X dL_law_199 ?_
  refine kl_sld (v := sc1) X S (ld_at (k := 1) (by decide) (by omega) hL).1 (by rw [(ld_at (k := 1) (by decide) (by omega) hL).2]; exact hs1) dL_law_200 ?_
  refine kw_aload_n X dL_law_201 rfl 0 rfl ?_
  refine kw_iload_n X dL_law_202 rfl 3 rfl ?_
  refine kw_iconst X dL_law_203 ci_2 ?_
  refine kw_iadd X dL_law_204 ?_
  refine kl_sld (v := sc2) X S (ld_at (k := 2) (by decide) (by omega) hL).1 (by rw [(ld_at (k := 2) (by decide) (by omega) hL).2]; exact hs2) dL_law_205 ?_
  obtain ⟨b6, m7, m8, b9, hx9, hF⟩ := ob4_ex hF
  refine kb_aei X (r := .int b6) (As := [.int sc1, .int sc2]) (st := [.int b1]) (bs' := [[(h0, .inr (6, [.ref h1, .ref (ah 0), .ref t0]))], [(h1, .inr (3, [.ref (a 0), .ref (b 0), .ref (d 0), .int k0, .int k1]))], bC cI a m2, bC cI b s0, bC cI d s1, bH cI cR ah m3 m4 b5, wX4 cC t0 t1 ch len cur verb fi se, wX7 cI mo0 mo1 mo2 mo3 mo4 m7 m8 q_asd q_tx b9 q_len q_at_ q_letter q_one q_two q_number]) E (c_X7_set l D cI cC cR mo0 mo1 mo2 mo3 mo4 q_p q_sv q_asd q_tx q_states q_len q_at_ q_letter q_one q_two q_number sc1 sc2 Z b6 m7 m8 b9 hx9) vl_L_21 yv_X7_set ⟨Nat.le_of_ble_eq_true rfl, Nat.le_of_ble_eq_true rfl⟩ ⟨rfl, rfl⟩ hnz 7 0 rfl rfl rfl rfl rfl (Nat.le_of_ble_eq_true rfl) dL_law_206 [mo0, mo1, mo2, mo3, mo4] rfl rfl rfl ?_
  refine kw_icmp_eq X 843 dL_law_209 (by decide) (fun q10 => ?_) (fun q10 => ?_)
  · replace hF := (if_pos q10).symm.trans hF
    obtain ⟨rfl, rfl, rfl, rfl, rfl, rfl, rfl⟩ := si7 hF
    exact kk
  · replace hF := (if_neg q10).symm.trans hF
    refine kw_iconst X dL_law_212 ci_0 ?_
    exact none_some hF
-- L_case2
def f_L_2 (Z : Nat) (c : CV) (s0 : CV) (s1 : CV) (k0 : Int32) (k1 : Int32) (g : Nat → SV) (nx : Nat) (sz : Int32) (q_p : Nat → Int32) (q_sv : Nat → Int32) (q_states : Int32) (sc1 : Int32) (sc2 : Int32) : Option (CV × (Nat → SV) × Nat × Int32 × (Nat → Int32) × (Nat → Int32) × Int32) :=
  (ob5 (f_X6_borrow Z c s0 s1 k0 k1 g nx sz sc1 sc2) (fun (b1 : Int32) (m2 : CV) (m3 : Nat → SV) (m4 : Nat) (b5 : Int32) => (ob4 (f_X7_borrow Z q_p q_sv q_states sc1 sc2) (fun (b6 : Int32) (m7 : Nat → Int32) (m8 : Nat → Int32) (b9 : Int32) => (if b1 = b6 then (some (m2, m3, m4, b5, m7, m8, b9)) else none)))))
set_option maxHeartbeats 4000000 in
set_option maxRecDepth 100000 in
theorem c_L_2 {Γ : KG} {w0 : Cond} (l : Launch) (D : va_G) (cI cC cR : ClassId) (sb L : Nat) (xs : Nat → Int32) (X : KX Γ l room_1 D (TY cI cC cR) code 4 "RibbedLoansLaw" w0) (E : KE Γ) (S : KL Γ sb L xs) {n z : Nat} (hnz : n ≤ room_1.cells ∧ z ≤ room_1.slots) (h0 h1 t0 t1 : Nat) (a b d ah : Nat → Nat) (mo0 mo1 mo2 mo3 mo4 : Nat) (c : CV) (s0 : CV) (s1 : CV) (k0 : Int32) (k1 : Int32) (g : Nat → SV) (nx : Nat) (sz : Int32) (ch : Nat → Int32) (len : Int32) (cur : Int32) (verb : Int32) (fi : Int32) (se : Int32) (q_p : Nat → Int32) (q_sv : Nat → Int32) (q_asd : Nat → Int32) (q_tx : Nat → Int32) (q_states : Int32) (q_len : Int32) (q_at_ : Int32) (q_letter : Int32) (q_one : Int32) (q_two : Int32) (q_number : Int32) (j : Nat) (hj : j + 3 < L) (hL : L ≤ 2048) (hb_k0 : k0 = 0 ∨ k0 = 1) (hb_k1 : k1 = 0 ∨ k1 = 1) (hnx : nx < 5) (hb_g : ∀ i, ((g i).2.2.2.1 = 0 ∨ (g i).2.2.2.1 = 1) ∧ ((g i).2.2.2.2 = 0 ∨ (g i).2.2.2.2 = 1)) (Z : Nat) (sc1 sc2 sc3 : Int32) (hs1 : xs (j + 1) = sc1) (hs2 : xs (j + 2) = sc2) (hs3 : xs (j + 3) = sc3) (c' : CV) (g' : Nat → SV) (nx' : Nat) (sz' : Int32) (q_p' : Nat → Int32) (q_sv' : Nat → Int32) (q_states' : Int32) (hF : f_L_2 Z c s0 s1 k0 k1 g nx sz q_p q_sv q_states sc1 sc2 = some (c', g', nx', sz', q_p', q_sv', q_states')) (kk : KW Γ n z (wj [[(h0, .inr (6, [.ref h1, .ref (ah 0), .ref t0]))], [(h1, .inr (3, [.ref (a 0), .ref (b 0), .ref (d 0), .int k0, .int k1]))], bC cI a c', bC cI b s0, bC cI d s1, bH cI cR ah g' nx' sz', wX4 cC t0 t1 ch len cur verb fi se, wX7 cI mo0 mo1 mo2 mo3 mo4 q_p' q_sv' q_asd q_tx q_states' q_len q_at_ q_letter q_one q_two q_number]) [(0, .ref sb), (1, .ref h0), (2, .ref mo0), (3, .int (nI j))] 843 []) : KW Γ n z (wj [[(h0, .inr (6, [.ref h1, .ref (ah 0), .ref t0]))], [(h1, .inr (3, [.ref (a 0), .ref (b 0), .ref (d 0), .int k0, .int k1]))], bC cI a c, bC cI b s0, bC cI d s1, bH cI cR ah g nx sz, wX4 cC t0 t1 ch len cur verb fi se, wX7 cI mo0 mo1 mo2 mo3 mo4 q_p q_sv q_asd q_tx q_states q_len q_at_ q_letter q_one q_two q_number]) [(0, .ref sb), (1, .ref h0), (2, .ref mo0), (3, .int (nI j))] 214 [] := by
  unfold f_L_2 at hF
  refine kw_aload_n X dL_law_214 rfl 1 rfl ?_
  refine kw_aload_n X dL_law_215 rfl 0 rfl ?_
  refine kw_iload_n X dL_law_216 rfl 3 rfl ?_
  refine kw_iconst X dL_law_217 ci_1 ?_
  refine kw_iadd X dL_law_218 ?_
  refine kl_sld (v := sc1) X S (ld_at (k := 1) (by decide) (by omega) hL).1 (by rw [(ld_at (k := 1) (by decide) (by omega) hL).2]; exact hs1) dL_law_219 ?_
  refine kw_aload_n X dL_law_220 rfl 0 rfl ?_
  refine kw_iload_n X dL_law_221 rfl 3 rfl ?_
  refine kw_iconst X dL_law_222 ci_2 ?_
  refine kw_iadd X dL_law_223 ?_
  refine kl_sld (v := sc2) X S (ld_at (k := 2) (by decide) (by omega) hL).1 (by rw [(ld_at (k := 2) (by decide) (by omega) hL).2]; exact hs2) dL_law_224 ?_
  obtain ⟨b1, m2, m3, m4, b5, hx5, hF⟩ := ob5_ex hF
  refine kb_mei X (r := .int b1) (As := [.int sc1, .int sc2]) (st := []) (bs' := [[(h0, .inr (6, [.ref h1, .ref (ah 0), .ref t0]))], [(h1, .inr (3, [.ref (a 0), .ref (b 0), .ref (d 0), .int k0, .int k1]))], bC cI a m2, bC cI b s0, bC cI d s1, bH cI cR ah m3 m4 b5, wX4 cC t0 t1 ch len cur verb fi se, wX7 cI mo0 mo1 mo2 mo3 mo4 q_p q_sv q_asd q_tx q_states q_len q_at_ q_letter q_one q_two q_number]) E (c_X6_borrow l D cI cC cR h0 h1 t0 t1 a b d ah c s0 s1 k0 k1 g nx sz ch len cur verb fi se sc1 sc2 hb_k0 hb_k1 hnx hb_g Z b1 m2 m3 m4 b5 hx5) vl_L_22 yv_X6_borrow ⟨Nat.le_of_ble_eq_true rfl, Nat.le_of_ble_eq_true rfl⟩ ⟨rfl, rfl⟩ hnz 0 0 rfl rfl rfl [0, 1, 2, 3, 4, 5, 6] rfl rfl rfl rfl (Nat.le_of_ble_eq_true rfl) dL_law_225 (wa_c rfl (wa_c rfl (wa_c bC_same (wa_c rfl (wa_c rfl (wa_c bH_same (wa_c rfl rfl))))))) rfl ?_
  refine kw_aload_n X dL_law_228 rfl 2 rfl ?_
  refine kw_aload_n X dL_law_229 rfl 0 rfl ?_
  refine kw_iload_n X dL_law_230 rfl 3 rfl ?_
  refine kw_iconst X dL_law_231 ci_1 ?_
  refine kw_iadd X dL_law_232 ?_
  refine kl_sld (v := sc1) X S (ld_at (k := 1) (by decide) (by omega) hL).1 (by rw [(ld_at (k := 1) (by decide) (by omega) hL).2]; exact hs1) dL_law_233 ?_
  refine kw_aload_n X dL_law_234 rfl 0 rfl ?_
  refine kw_iload_n X dL_law_235 rfl 3 rfl ?_
  refine kw_iconst X dL_law_236 ci_2 ?_
  refine kw_iadd X dL_law_237 ?_
  refine kl_sld (v := sc2) X S (ld_at (k := 2) (by decide) (by omega) hL).1 (by rw [(ld_at (k := 2) (by decide) (by omega) hL).2]; exact hs2) dL_law_238 ?_
  obtain ⟨b6, m7, m8, b9, hx9, hF⟩ := ob4_ex hF
  refine kb_aei X (r := .int b6) (As := [.int sc1, .int sc2]) (st := [.int b1]) (bs' := [[(h0, .inr (6, [.ref h1, .ref (ah 0), .ref t0]))], [(h1, .inr (3, [.ref (a 0), .ref (b 0), .ref (d 0), .int k0, .int k1]))], bC cI a m2, bC cI b s0, bC cI d s1, bH cI cR ah m3 m4 b5, wX4 cC t0 t1 ch len cur verb fi se, wX7 cI mo0 mo1 mo2 mo3 mo4 m7 m8 q_asd q_tx b9 q_len q_at_ q_letter q_one q_two q_number]) E (c_X7_borrow l D cI cC cR mo0 mo1 mo2 mo3 mo4 q_p q_sv q_asd q_tx q_states q_len q_at_ q_letter q_one q_two q_number sc1 sc2 Z b6 m7 m8 b9 hx9) vl_L_25 yv_X7_borrow ⟨Nat.le_of_ble_eq_true rfl, Nat.le_of_ble_eq_true rfl⟩ ⟨rfl, rfl⟩ hnz 7 0 rfl rfl rfl rfl rfl (Nat.le_of_ble_eq_true rfl) dL_law_239 [mo0, mo1, mo2, mo3, mo4] rfl rfl rfl ?_
  refine kw_icmp_eq X 843 dL_law_242 (by decide) (fun q10 => ?_) (fun q10 => ?_)
  · replace hF := (if_pos q10).symm.trans hF
    obtain ⟨rfl, rfl, rfl, rfl, rfl, rfl, rfl⟩ := si7 hF
    exact kk
  · replace hF := (if_neg q10).symm.trans hF
    refine kw_iconst X dL_law_245 ci_0 ?_
    exact none_some hF
-- L_case3
def f_L_3 (Z : Nat) (c : CV) (s0 : CV) (s1 : CV) (k0 : Int32) (k1 : Int32) (g : Nat → SV) (nx : Nat) (sz : Int32) (q_p : Nat → Int32) (q_sv : Nat → Int32) (q_states : Int32) (sc1 : Int32) (sc2 : Int32) : Option (CV × (Nat → SV) × Nat × Int32 × (Nat → Int32) × (Nat → Int32) × Int32) :=
  (ob5 (f_X6_bringBack Z c s0 s1 k0 k1 g nx sz sc1 sc2) (fun (b1 : Int32) (m2 : CV) (m3 : Nat → SV) (m4 : Nat) (b5 : Int32) => (ob4 (f_X7_bringBack Z q_p q_sv q_states sc1 sc2) (fun (b6 : Int32) (m7 : Nat → Int32) (m8 : Nat → Int32) (b9 : Int32) => (if b1 = b6 then (some (m2, m3, m4, b5, m7, m8, b9)) else none)))))
set_option maxHeartbeats 4000000 in
set_option maxRecDepth 100000 in
theorem c_L_3 {Γ : KG} {w0 : Cond} (l : Launch) (D : va_G) (cI cC cR : ClassId) (sb L : Nat) (xs : Nat → Int32) (X : KX Γ l room_1 D (TY cI cC cR) code 4 "RibbedLoansLaw" w0) (E : KE Γ) (S : KL Γ sb L xs) {n z : Nat} (hnz : n ≤ room_1.cells ∧ z ≤ room_1.slots) (h0 h1 t0 t1 : Nat) (a b d ah : Nat → Nat) (mo0 mo1 mo2 mo3 mo4 : Nat) (c : CV) (s0 : CV) (s1 : CV) (k0 : Int32) (k1 : Int32) (g : Nat → SV) (nx : Nat) (sz : Int32) (ch : Nat → Int32) (len : Int32) (cur : Int32) (verb : Int32) (fi : Int32) (se : Int32) (q_p : Nat → Int32) (q_sv : Nat → Int32) (q_asd : Nat → Int32) (q_tx : Nat → Int32) (q_states : Int32) (q_len : Int32) (q_at_ : Int32) (q_letter : Int32) (q_one : Int32) (q_two : Int32) (q_number : Int32) (j : Nat) (hj : j + 3 < L) (hL : L ≤ 2048) (hb_k0 : k0 = 0 ∨ k0 = 1) (hb_k1 : k1 = 0 ∨ k1 = 1) (hnx : nx < 5) (hb_g : ∀ i, ((g i).2.2.2.1 = 0 ∨ (g i).2.2.2.1 = 1) ∧ ((g i).2.2.2.2 = 0 ∨ (g i).2.2.2.2 = 1)) (Z : Nat) (sc1 sc2 sc3 : Int32) (hs1 : xs (j + 1) = sc1) (hs2 : xs (j + 2) = sc2) (hs3 : xs (j + 3) = sc3) (c' : CV) (g' : Nat → SV) (nx' : Nat) (sz' : Int32) (q_p' : Nat → Int32) (q_sv' : Nat → Int32) (q_states' : Int32) (hF : f_L_3 Z c s0 s1 k0 k1 g nx sz q_p q_sv q_states sc1 sc2 = some (c', g', nx', sz', q_p', q_sv', q_states')) (kk : KW Γ n z (wj [[(h0, .inr (6, [.ref h1, .ref (ah 0), .ref t0]))], [(h1, .inr (3, [.ref (a 0), .ref (b 0), .ref (d 0), .int k0, .int k1]))], bC cI a c', bC cI b s0, bC cI d s1, bH cI cR ah g' nx' sz', wX4 cC t0 t1 ch len cur verb fi se, wX7 cI mo0 mo1 mo2 mo3 mo4 q_p' q_sv' q_asd q_tx q_states' q_len q_at_ q_letter q_one q_two q_number]) [(0, .ref sb), (1, .ref h0), (2, .ref mo0), (3, .int (nI j))] 843 []) : KW Γ n z (wj [[(h0, .inr (6, [.ref h1, .ref (ah 0), .ref t0]))], [(h1, .inr (3, [.ref (a 0), .ref (b 0), .ref (d 0), .int k0, .int k1]))], bC cI a c, bC cI b s0, bC cI d s1, bH cI cR ah g nx sz, wX4 cC t0 t1 ch len cur verb fi se, wX7 cI mo0 mo1 mo2 mo3 mo4 q_p q_sv q_asd q_tx q_states q_len q_at_ q_letter q_one q_two q_number]) [(0, .ref sb), (1, .ref h0), (2, .ref mo0), (3, .int (nI j))] 247 [] := by
  unfold f_L_3 at hF
  refine kw_aload_n X dL_law_247 rfl 1 rfl ?_
  refine kw_aload_n X dL_law_248 rfl 0 rfl ?_
  refine kw_iload_n X dL_law_249 rfl 3 rfl ?_
  refine kw_iconst X dL_law_250 ci_1 ?_
  refine kw_iadd X dL_law_251 ?_
  refine kl_sld (v := sc1) X S (ld_at (k := 1) (by decide) (by omega) hL).1 (by rw [(ld_at (k := 1) (by decide) (by omega) hL).2]; exact hs1) dL_law_252 ?_
  refine kw_aload_n X dL_law_253 rfl 0 rfl ?_
  refine kw_iload_n X dL_law_254 rfl 3 rfl ?_
  refine kw_iconst X dL_law_255 ci_2 ?_
  refine kw_iadd X dL_law_256 ?_
  refine kl_sld (v := sc2) X S (ld_at (k := 2) (by decide) (by omega) hL).1 (by rw [(ld_at (k := 2) (by decide) (by omega) hL).2]; exact hs2) dL_law_257 ?_
  obtain ⟨b1, m2, m3, m4, b5, hx5, hF⟩ := ob5_ex hF
  refine kb_mei X (r := .int b1) (As := [.int sc1, .int sc2]) (st := []) (bs' := [[(h0, .inr (6, [.ref h1, .ref (ah 0), .ref t0]))], [(h1, .inr (3, [.ref (a 0), .ref (b 0), .ref (d 0), .int k0, .int k1]))], bC cI a m2, bC cI b s0, bC cI d s1, bH cI cR ah m3 m4 b5, wX4 cC t0 t1 ch len cur verb fi se, wX7 cI mo0 mo1 mo2 mo3 mo4 q_p q_sv q_asd q_tx q_states q_len q_at_ q_letter q_one q_two q_number]) E (c_X6_bringBack l D cI cC cR h0 h1 t0 t1 a b d ah c s0 s1 k0 k1 g nx sz ch len cur verb fi se sc1 sc2 hb_k0 hb_k1 hnx hb_g Z b1 m2 m3 m4 b5 hx5) vl_L_26 yv_X6_bringBack ⟨Nat.le_of_ble_eq_true rfl, Nat.le_of_ble_eq_true rfl⟩ ⟨rfl, rfl⟩ hnz 0 0 rfl rfl rfl [0, 1, 2, 3, 4, 5, 6] rfl rfl rfl rfl (Nat.le_of_ble_eq_true rfl) dL_law_258 (wa_c rfl (wa_c rfl (wa_c bC_same (wa_c rfl (wa_c rfl (wa_c bH_same (wa_c rfl rfl))))))) rfl ?_
  refine kw_aload_n X dL_law_261 rfl 2 rfl ?_
  refine kw_aload_n X dL_law_262 rfl 0 rfl ?_
  refine kw_iload_n X dL_law_263 rfl 3 rfl ?_
  refine kw_iconst X dL_law_264 ci_1 ?_
  refine kw_iadd X dL_law_265 ?_
  refine kl_sld (v := sc1) X S (ld_at (k := 1) (by decide) (by omega) hL).1 (by rw [(ld_at (k := 1) (by decide) (by omega) hL).2]; exact hs1) dL_law_266 ?_
  refine kw_aload_n X dL_law_267 rfl 0 rfl ?_
  refine kw_iload_n X dL_law_268 rfl 3 rfl ?_
  refine kw_iconst X dL_law_269 ci_2 ?_
  refine kw_iadd X dL_law_270 ?_
  refine kl_sld (v := sc2) X S (ld_at (k := 2) (by decide) (by omega) hL).1 (by rw [(ld_at (k := 2) (by decide) (by omega) hL).2]; exact hs2) dL_law_271 ?_
  obtain ⟨b6, m7, m8, b9, hx9, hF⟩ := ob4_ex hF
  refine kb_aei X (r := .int b6) (As := [.int sc1, .int sc2]) (st := [.int b1]) (bs' := [[(h0, .inr (6, [.ref h1, .ref (ah 0), .ref t0]))], [(h1, .inr (3, [.ref (a 0), .ref (b 0), .ref (d 0), .int k0, .int k1]))], bC cI a m2, bC cI b s0, bC cI d s1, bH cI cR ah m3 m4 b5, wX4 cC t0 t1 ch len cur verb fi se, wX7 cI mo0 mo1 mo2 mo3 mo4 m7 m8 q_asd q_tx b9 q_len q_at_ q_letter q_one q_two q_number]) E (c_X7_bringBack l D cI cC cR mo0 mo1 mo2 mo3 mo4 q_p q_sv q_asd q_tx q_states q_len q_at_ q_letter q_one q_two q_number sc1 sc2 Z b6 m7 m8 b9 hx9) vl_L_29 yv_X7_bringBack ⟨Nat.le_of_ble_eq_true rfl, Nat.le_of_ble_eq_true rfl⟩ ⟨rfl, rfl⟩ hnz 7 0 rfl rfl rfl rfl rfl (Nat.le_of_ble_eq_true rfl) dL_law_272 [mo0, mo1, mo2, mo3, mo4] rfl rfl rfl ?_
  refine kw_icmp_eq X 843 dL_law_275 (by decide) (fun q10 => ?_) (fun q10 => ?_)
  · replace hF := (if_pos q10).symm.trans hF
    obtain ⟨rfl, rfl, rfl, rfl, rfl, rfl, rfl⟩ := si7 hF
    exact kk
  · replace hF := (if_neg q10).symm.trans hF
    refine kw_iconst X dL_law_278 ci_0 ?_
    exact none_some hF
-- L_case4
def f_L_4 (Z : Nat) (c : CV) (s0 : CV) (s1 : CV) (k0 : Int32) (k1 : Int32) (g : Nat → SV) (nx : Nat) (sz : Int32) (q_p : Nat → Int32) (q_sv : Nat → Int32) (q_states : Int32) (sc1 : Int32) (sc2 : Int32) : Option (CV × (Nat → SV) × Nat × Int32 × (Nat → Int32) × (Nat → Int32) × Int32) :=
  (ob5 (f_X6_hour Z c s0 s1 k0 k1 g nx sz sc1 sc2) (fun (b1 : Int32) (m2 : CV) (m3 : Nat → SV) (m4 : Nat) (b5 : Int32) => (ob4 (f_X7_hour Z q_p q_sv q_states sc1 sc2) (fun (b6 : Int32) (m7 : Nat → Int32) (m8 : Nat → Int32) (b9 : Int32) => (if b1 = b6 then (some (m2, m3, m4, b5, m7, m8, b9)) else none)))))
set_option maxHeartbeats 4000000 in
set_option maxRecDepth 100000 in
theorem c_L_4 {Γ : KG} {w0 : Cond} (l : Launch) (D : va_G) (cI cC cR : ClassId) (sb L : Nat) (xs : Nat → Int32) (X : KX Γ l room_1 D (TY cI cC cR) code 4 "RibbedLoansLaw" w0) (E : KE Γ) (S : KL Γ sb L xs) {n z : Nat} (hnz : n ≤ room_1.cells ∧ z ≤ room_1.slots) (h0 h1 t0 t1 : Nat) (a b d ah : Nat → Nat) (mo0 mo1 mo2 mo3 mo4 : Nat) (c : CV) (s0 : CV) (s1 : CV) (k0 : Int32) (k1 : Int32) (g : Nat → SV) (nx : Nat) (sz : Int32) (ch : Nat → Int32) (len : Int32) (cur : Int32) (verb : Int32) (fi : Int32) (se : Int32) (q_p : Nat → Int32) (q_sv : Nat → Int32) (q_asd : Nat → Int32) (q_tx : Nat → Int32) (q_states : Int32) (q_len : Int32) (q_at_ : Int32) (q_letter : Int32) (q_one : Int32) (q_two : Int32) (q_number : Int32) (j : Nat) (hj : j + 3 < L) (hL : L ≤ 2048) (hb_k0 : k0 = 0 ∨ k0 = 1) (hb_k1 : k1 = 0 ∨ k1 = 1) (hnx : nx < 5) (hb_g : ∀ i, ((g i).2.2.2.1 = 0 ∨ (g i).2.2.2.1 = 1) ∧ ((g i).2.2.2.2 = 0 ∨ (g i).2.2.2.2 = 1)) (Z : Nat) (sc1 sc2 sc3 : Int32) (hs1 : xs (j + 1) = sc1) (hs2 : xs (j + 2) = sc2) (hs3 : xs (j + 3) = sc3) (c' : CV) (g' : Nat → SV) (nx' : Nat) (sz' : Int32) (q_p' : Nat → Int32) (q_sv' : Nat → Int32) (q_states' : Int32) (hF : f_L_4 Z c s0 s1 k0 k1 g nx sz q_p q_sv q_states sc1 sc2 = some (c', g', nx', sz', q_p', q_sv', q_states')) (kk : KW Γ n z (wj [[(h0, .inr (6, [.ref h1, .ref (ah 0), .ref t0]))], [(h1, .inr (3, [.ref (a 0), .ref (b 0), .ref (d 0), .int k0, .int k1]))], bC cI a c', bC cI b s0, bC cI d s1, bH cI cR ah g' nx' sz', wX4 cC t0 t1 ch len cur verb fi se, wX7 cI mo0 mo1 mo2 mo3 mo4 q_p' q_sv' q_asd q_tx q_states' q_len q_at_ q_letter q_one q_two q_number]) [(0, .ref sb), (1, .ref h0), (2, .ref mo0), (3, .int (nI j))] 843 []) : KW Γ n z (wj [[(h0, .inr (6, [.ref h1, .ref (ah 0), .ref t0]))], [(h1, .inr (3, [.ref (a 0), .ref (b 0), .ref (d 0), .int k0, .int k1]))], bC cI a c, bC cI b s0, bC cI d s1, bH cI cR ah g nx sz, wX4 cC t0 t1 ch len cur verb fi se, wX7 cI mo0 mo1 mo2 mo3 mo4 q_p q_sv q_asd q_tx q_states q_len q_at_ q_letter q_one q_two q_number]) [(0, .ref sb), (1, .ref h0), (2, .ref mo0), (3, .int (nI j))] 280 [] := by
  unfold f_L_4 at hF
  refine kw_aload_n X dL_law_280 rfl 1 rfl ?_
  refine kw_aload_n X dL_law_281 rfl 0 rfl ?_
  refine kw_iload_n X dL_law_282 rfl 3 rfl ?_
  refine kw_iconst X dL_law_283 ci_1 ?_
  refine kw_iadd X dL_law_284 ?_
  refine kl_sld (v := sc1) X S (ld_at (k := 1) (by decide) (by omega) hL).1 (by rw [(ld_at (k := 1) (by decide) (by omega) hL).2]; exact hs1) dL_law_285 ?_
  refine kw_aload_n X dL_law_286 rfl 0 rfl ?_
  refine kw_iload_n X dL_law_287 rfl 3 rfl ?_
  refine kw_iconst X dL_law_288 ci_2 ?_
  refine kw_iadd X dL_law_289 ?_
  refine kl_sld (v := sc2) X S (ld_at (k := 2) (by decide) (by omega) hL).1 (by rw [(ld_at (k := 2) (by decide) (by omega) hL).2]; exact hs2) dL_law_290 ?_
  obtain ⟨b1, m2, m3, m4, b5, hx5, hF⟩ := ob5_ex hF
  refine kb_mei X (r := .int b1) (As := [.int sc1, .int sc2]) (st := []) (bs' := [[(h0, .inr (6, [.ref h1, .ref (ah 0), .ref t0]))], [(h1, .inr (3, [.ref (a 0), .ref (b 0), .ref (d 0), .int k0, .int k1]))], bC cI a m2, bC cI b s0, bC cI d s1, bH cI cR ah m3 m4 b5, wX4 cC t0 t1 ch len cur verb fi se, wX7 cI mo0 mo1 mo2 mo3 mo4 q_p q_sv q_asd q_tx q_states q_len q_at_ q_letter q_one q_two q_number]) E (c_X6_hour l D cI cC cR h0 h1 t0 t1 a b d ah c s0 s1 k0 k1 g nx sz ch len cur verb fi se sc1 sc2 hb_k0 hb_k1 hnx hb_g Z b1 m2 m3 m4 b5 hx5) vl_L_30 yv_X6_hour ⟨Nat.le_of_ble_eq_true rfl, Nat.le_of_ble_eq_true rfl⟩ ⟨rfl, rfl⟩ hnz 0 0 rfl rfl rfl [0, 1, 2, 3, 4, 5, 6] rfl rfl rfl rfl (Nat.le_of_ble_eq_true rfl) dL_law_291 (wa_c rfl (wa_c rfl (wa_c bC_same (wa_c rfl (wa_c rfl (wa_c bH_same (wa_c rfl rfl))))))) rfl ?_
  refine kw_aload_n X dL_law_294 rfl 2 rfl ?_
  refine kw_aload_n X dL_law_295 rfl 0 rfl ?_
  refine kw_iload_n X dL_law_296 rfl 3 rfl ?_
  refine kw_iconst X dL_law_297 ci_1 ?_
  refine kw_iadd X dL_law_298 ?_
  refine kl_sld (v := sc1) X S (ld_at (k := 1) (by decide) (by omega) hL).1 (by rw [(ld_at (k := 1) (by decide) (by omega) hL).2]; exact hs1) dL_law_299 ?_
  refine kw_aload_n X dL_law_300 rfl 0 rfl ?_
  refine kw_iload_n X dL_law_301 rfl 3 rfl ?_
  refine kw_iconst X dL_law_302 ci_2 ?_
  refine kw_iadd X dL_law_303 ?_
  refine kl_sld (v := sc2) X S (ld_at (k := 2) (by decide) (by omega) hL).1 (by rw [(ld_at (k := 2) (by decide) (by omega) hL).2]; exact hs2) dL_law_304 ?_
  obtain ⟨b6, m7, m8, b9, hx9, hF⟩ := ob4_ex hF
  refine kb_aei X (r := .int b6) (As := [.int sc1, .int sc2]) (st := [.int b1]) (bs' := [[(h0, .inr (6, [.ref h1, .ref (ah 0), .ref t0]))], [(h1, .inr (3, [.ref (a 0), .ref (b 0), .ref (d 0), .int k0, .int k1]))], bC cI a m2, bC cI b s0, bC cI d s1, bH cI cR ah m3 m4 b5, wX4 cC t0 t1 ch len cur verb fi se, wX7 cI mo0 mo1 mo2 mo3 mo4 m7 m8 q_asd q_tx b9 q_len q_at_ q_letter q_one q_two q_number]) E (c_X7_hour l D cI cC cR mo0 mo1 mo2 mo3 mo4 q_p q_sv q_asd q_tx q_states q_len q_at_ q_letter q_one q_two q_number sc1 sc2 Z b6 m7 m8 b9 hx9) vl_L_33 yv_X7_hour ⟨Nat.le_of_ble_eq_true rfl, Nat.le_of_ble_eq_true rfl⟩ ⟨rfl, rfl⟩ hnz 7 0 rfl rfl rfl rfl rfl (Nat.le_of_ble_eq_true rfl) dL_law_305 [mo0, mo1, mo2, mo3, mo4] rfl rfl rfl ?_
  refine kw_icmp_eq X 843 dL_law_308 (by decide) (fun q10 => ?_) (fun q10 => ?_)
  · replace hF := (if_pos q10).symm.trans hF
    obtain ⟨rfl, rfl, rfl, rfl, rfl, rfl, rfl⟩ := si7 hF
    exact kk
  · replace hF := (if_neg q10).symm.trans hF
    refine kw_iconst X dL_law_311 ci_0 ?_
    exact none_some hF
-- L_case5
def f_L_5 (Z : Nat) (c : CV) (s0 : CV) (s1 : CV) (k0 : Int32) (k1 : Int32) (g : Nat → SV) (nx : Nat) (sz : Int32) (q_p : Nat → Int32) (q_sv : Nat → Int32) (q_states : Int32) (sc1 : Int32) (sc2 : Int32) (sc3 : Int32) : Option (CV × (Nat → SV) × Nat × Int32 × (Nat → Int32) × (Nat → Int32) × Int32) :=
  (ob5 (f_X6_load Z c s0 s1 k0 k1 g nx sz sc1 sc2 sc3) (fun (b1 : Int32) (m2 : CV) (m3 : Nat → SV) (m4 : Nat) (b5 : Int32) => (ob4 (f_X7_load Z q_p q_sv q_states sc1 sc2 sc3) (fun (b6 : Int32) (m7 : Nat → Int32) (m8 : Nat → Int32) (b9 : Int32) => (if b1 = b6 then (some (m2, m3, m4, b5, m7, m8, b9)) else none)))))
set_option maxHeartbeats 4000000 in
set_option maxRecDepth 100000 in
theorem c_L_5 {Γ : KG} {w0 : Cond} (l : Launch) (D : va_G) (cI cC cR : ClassId) (sb L : Nat) (xs : Nat → Int32) (X : KX Γ l room_1 D (TY cI cC cR) code 4 "RibbedLoansLaw" w0) (E : KE Γ) (S : KL Γ sb L xs) {n z : Nat} (hnz : n ≤ room_1.cells ∧ z ≤ room_1.slots) (h0 h1 t0 t1 : Nat) (a b d ah : Nat → Nat) (mo0 mo1 mo2 mo3 mo4 : Nat) (c : CV) (s0 : CV) (s1 : CV) (k0 : Int32) (k1 : Int32) (g : Nat → SV) (nx : Nat) (sz : Int32) (ch : Nat → Int32) (len : Int32) (cur : Int32) (verb : Int32) (fi : Int32) (se : Int32) (q_p : Nat → Int32) (q_sv : Nat → Int32) (q_asd : Nat → Int32) (q_tx : Nat → Int32) (q_states : Int32) (q_len : Int32) (q_at_ : Int32) (q_letter : Int32) (q_one : Int32) (q_two : Int32) (q_number : Int32) (j : Nat) (hj : j + 3 < L) (hL : L ≤ 2048) (hb_k0 : k0 = 0 ∨ k0 = 1) (hb_k1 : k1 = 0 ∨ k1 = 1) (hnx : nx < 5) (hb_g : ∀ i, ((g i).2.2.2.1 = 0 ∨ (g i).2.2.2.1 = 1) ∧ ((g i).2.2.2.2 = 0 ∨ (g i).2.2.2.2 = 1)) (Z : Nat) (sc1 sc2 sc3 : Int32) (hs1 : xs (j + 1) = sc1) (hs2 : xs (j + 2) = sc2) (hs3 : xs (j + 3) = sc3) (c' : CV) (g' : Nat → SV) (nx' : Nat) (sz' : Int32) (q_p' : Nat → Int32) (q_sv' : Nat → Int32) (q_states' : Int32) (hF : f_L_5 Z c s0 s1 k0 k1 g nx sz q_p q_sv q_states sc1 sc2 sc3 = some (c', g', nx', sz', q_p', q_sv', q_states')) (kk : KW Γ n z (wj [[(h0, .inr (6, [.ref h1, .ref (ah 0), .ref t0]))], [(h1, .inr (3, [.ref (a 0), .ref (b 0), .ref (d 0), .int k0, .int k1]))], bC cI a c', bC cI b s0, bC cI d s1, bH cI cR ah g' nx' sz', wX4 cC t0 t1 ch len cur verb fi se, wX7 cI mo0 mo1 mo2 mo3 mo4 q_p' q_sv' q_asd q_tx q_states' q_len q_at_ q_letter q_one q_two q_number]) [(0, .ref sb), (1, .ref h0), (2, .ref mo0), (3, .int (nI j))] 843 []) : KW Γ n z (wj [[(h0, .inr (6, [.ref h1, .ref (ah 0), .ref t0]))], [(h1, .inr (3, [.ref (a 0), .ref (b 0), .ref (d 0), .int k0, .int k1]))], bC cI a c, bC cI b s0, bC cI d s1, bH cI cR ah g nx sz, wX4 cC t0 t1 ch len cur verb fi se, wX7 cI mo0 mo1 mo2 mo3 mo4 q_p q_sv q_asd q_tx q_states q_len q_at_ q_letter q_one q_two q_number]) [(0, .ref sb), (1, .ref h0), (2, .ref mo0), (3, .int (nI j))] 313 [] := by
  unfold f_L_5 at hF
  refine kw_aload_n X dL_law_313 rfl 1 rfl ?_
  refine kw_aload_n X dL_law_314 rfl 0 rfl ?_
  refine kw_iload_n X dL_law_315 rfl 3 rfl ?_
  refine kw_iconst X dL_law_316 ci_1 ?_
  refine kw_iadd X dL_law_317 ?_
  refine kl_sld (v := sc1) X S (ld_at (k := 1) (by decide) (by omega) hL).1 (by rw [(ld_at (k := 1) (by decide) (by omega) hL).2]; exact hs1) dL_law_318 ?_
  refine kw_aload_n X dL_law_319 rfl 0 rfl ?_
  refine kw_iload_n X dL_law_320 rfl 3 rfl ?_
  refine kw_iconst X dL_law_321 ci_2 ?_
  refine kw_iadd X dL_law_322 ?_
  refine kl_sld (v := sc2) X S (ld_at (k := 2) (by decide) (by omega) hL).1 (by rw [(ld_at (k := 2) (by decide) (by omega) hL).2]; exact hs2) dL_law_323 ?_
  refine kw_aload_n X dL_law_324 rfl 0 rfl ?_
  refine kw_iload_n X dL_law_325 rfl 3 rfl ?_
  refine kw_iconst X dL_law_326 ci_3 ?_
  refine kw_iadd X dL_law_327 ?_
  refine kl_sld (v := sc3) X S (ld_at (k := 3) (by decide) (by omega) hL).1 (by rw [(ld_at (k := 3) (by decide) (by omega) hL).2]; exact hs3) dL_law_328 ?_
  obtain ⟨b1, m2, m3, m4, b5, hx5, hF⟩ := ob5_ex hF
  refine kb_mei X (r := .int b1) (As := [.int sc1, .int sc2, .int sc3]) (st := []) (bs' := [[(h0, .inr (6, [.ref h1, .ref (ah 0), .ref t0]))], [(h1, .inr (3, [.ref (a 0), .ref (b 0), .ref (d 0), .int k0, .int k1]))], bC cI a m2, bC cI b s0, bC cI d s1, bH cI cR ah m3 m4 b5, wX4 cC t0 t1 ch len cur verb fi se, wX7 cI mo0 mo1 mo2 mo3 mo4 q_p q_sv q_asd q_tx q_states q_len q_at_ q_letter q_one q_two q_number]) E (c_X6_load l D cI cC cR h0 h1 t0 t1 a b d ah c s0 s1 k0 k1 g nx sz ch len cur verb fi se sc1 sc2 sc3 hb_k0 hb_k1 hnx hb_g Z b1 m2 m3 m4 b5 hx5) vl_L_34 yv_X6_load ⟨Nat.le_of_ble_eq_true rfl, Nat.le_of_ble_eq_true rfl⟩ ⟨rfl, rfl⟩ hnz 0 0 rfl rfl rfl [0, 1, 2, 3, 4, 5, 6] rfl rfl rfl rfl (Nat.le_of_ble_eq_true rfl) dL_law_329 (wa_c rfl (wa_c rfl (wa_c bC_same (wa_c rfl (wa_c rfl (wa_c bH_same (wa_c rfl rfl))))))) rfl ?_
  refine kw_aload_n X dL_law_332 rfl 2 rfl ?_
  refine kw_aload_n X dL_law_333 rfl 0 rfl ?_
  refine kw_iload_n X dL_law_334 rfl 3 rfl ?_
  refine kw_iconst X dL_law_335 ci_1 ?_
  refine kw_iadd X dL_law_336 ?_
  refine kl_sld (v := sc1) X S (ld_at (k := 1) (by decide) (by omega) hL).1 (by rw [(ld_at (k := 1) (by decide) (by omega) hL).2]; exact hs1) dL_law_337 ?_
  refine kw_aload_n X dL_law_338 rfl 0 rfl ?_
  refine kw_iload_n X dL_law_339 rfl 3 rfl ?_
  refine kw_iconst X dL_law_340 ci_2 ?_
  refine kw_iadd X dL_law_341 ?_
  refine kl_sld (v := sc2) X S (ld_at (k := 2) (by decide) (by omega) hL).1 (by rw [(ld_at (k := 2) (by decide) (by omega) hL).2]; exact hs2) dL_law_342 ?_
  refine kw_aload_n X dL_law_343 rfl 0 rfl ?_
  refine kw_iload_n X dL_law_344 rfl 3 rfl ?_
  refine kw_iconst X dL_law_345 ci_3 ?_
  refine kw_iadd X dL_law_346 ?_
  refine kl_sld (v := sc3) X S (ld_at (k := 3) (by decide) (by omega) hL).1 (by rw [(ld_at (k := 3) (by decide) (by omega) hL).2]; exact hs3) dL_law_347 ?_
  obtain ⟨b6, m7, m8, b9, hx9, hF⟩ := ob4_ex hF
  refine kb_aei X (r := .int b6) (As := [.int sc1, .int sc2, .int sc3]) (st := [.int b1]) (bs' := [[(h0, .inr (6, [.ref h1, .ref (ah 0), .ref t0]))], [(h1, .inr (3, [.ref (a 0), .ref (b 0), .ref (d 0), .int k0, .int k1]))], bC cI a m2, bC cI b s0, bC cI d s1, bH cI cR ah m3 m4 b5, wX4 cC t0 t1 ch len cur verb fi se, wX7 cI mo0 mo1 mo2 mo3 mo4 m7 m8 q_asd q_tx b9 q_len q_at_ q_letter q_one q_two q_number]) E (c_X7_load l D cI cC cR mo0 mo1 mo2 mo3 mo4 q_p q_sv q_asd q_tx q_states q_len q_at_ q_letter q_one q_two q_number sc1 sc2 sc3 Z b6 m7 m8 b9 hx9) vl_L_38 yv_X7_load ⟨Nat.le_of_ble_eq_true rfl, Nat.le_of_ble_eq_true rfl⟩ ⟨rfl, rfl⟩ hnz 7 0 rfl rfl rfl rfl rfl (Nat.le_of_ble_eq_true rfl) dL_law_348 [mo0, mo1, mo2, mo3, mo4] rfl rfl rfl ?_
  refine kw_icmp_eq X 843 dL_law_351 (by decide) (fun q10 => ?_) (fun q10 => ?_)
  · replace hF := (if_pos q10).symm.trans hF
    obtain ⟨rfl, rfl, rfl, rfl, rfl, rfl, rfl⟩ := si7 hF
    exact kk
  · replace hF := (if_neg q10).symm.trans hF
    refine kw_iconst X dL_law_354 ci_0 ?_
    exact none_some hF
-- L_case6
def f_L_6 (Z : Nat) (c : CV) (s0 : CV) (s1 : CV) (k0 : Int32) (k1 : Int32) (g : Nat → SV) (nx : Nat) (sz : Int32) (q_p : Nat → Int32) (q_sv : Nat → Int32) (q_states : Int32) (sc1 : Int32) (sc2 : Int32) (sc3 : Int32) : Option (CV × (Nat → SV) × Nat × Int32 × (Nat → Int32) × (Nat → Int32) × Int32) :=
  (ob5 (f_X6_unload Z c s0 s1 k0 k1 g nx sz sc1 sc2 sc3) (fun (b1 : Int32) (m2 : CV) (m3 : Nat → SV) (m4 : Nat) (b5 : Int32) => (ob4 (f_X7_unload Z q_p q_sv q_states sc1 sc2 sc3) (fun (b6 : Int32) (m7 : Nat → Int32) (m8 : Nat → Int32) (b9 : Int32) => (if b1 = b6 then (some (m2, m3, m4, b5, m7, m8, b9)) else none)))))
set_option maxHeartbeats 4000000 in
set_option maxRecDepth 100000 in
theorem c_L_6 {Γ : KG} {w0 : Cond} (l : Launch) (D : va_G) (cI cC cR : ClassId) (sb L : Nat) (xs : Nat → Int32) (X : KX Γ l room_1 D (TY cI cC cR) code 4 "RibbedLoansLaw" w0) (E : KE Γ) (S : KL Γ sb L xs) {n z : Nat} (hnz : n ≤ room_1.cells ∧ z ≤ room_1.slots) (h0 h1 t0 t1 : Nat) (a b d ah : Nat → Nat) (mo0 mo1 mo2 mo3 mo4 : Nat) (c : CV) (s0 : CV) (s1 : CV) (k0 : Int32) (k1 : Int32) (g : Nat → SV) (nx : Nat) (sz : Int32) (ch : Nat → Int32) (len : Int32) (cur : Int32) (verb : Int32) (fi : Int32) (se : Int32) (q_p : Nat → Int32) (q_sv : Nat → Int32) (q_asd : Nat → Int32) (q_tx : Nat → Int32) (q_states : Int32) (q_len : Int32) (q_at_ : Int32) (q_letter : Int32) (q_one : Int32) (q_two : Int32) (q_number : Int32) (j : Nat) (hj : j + 3 < L) (hL : L ≤ 2048) (hb_k0 : k0 = 0 ∨ k0 = 1) (hb_k1 : k1 = 0 ∨ k1 = 1) (hnx : nx < 5) (hb_g : ∀ i, ((g i).2.2.2.1 = 0 ∨ (g i).2.2.2.1 = 1) ∧ ((g i).2.2.2.2 = 0 ∨ (g i).2.2.2.2 = 1)) (Z : Nat) (sc1 sc2 sc3 : Int32) (hs1 : xs (j + 1) = sc1) (hs2 : xs (j + 2) = sc2) (hs3 : xs (j + 3) = sc3) (c' : CV) (g' : Nat → SV) (nx' : Nat) (sz' : Int32) (q_p' : Nat → Int32) (q_sv' : Nat → Int32) (q_states' : Int32) (hF : f_L_6 Z c s0 s1 k0 k1 g nx sz q_p q_sv q_states sc1 sc2 sc3 = some (c', g', nx', sz', q_p', q_sv', q_states')) (kk : KW Γ n z (wj [[(h0, .inr (6, [.ref h1, .ref (ah 0), .ref t0]))], [(h1, .inr (3, [.ref (a 0), .ref (b 0), .ref (d 0), .int k0, .int k1]))], bC cI a c', bC cI b s0, bC cI d s1, bH cI cR ah g' nx' sz', wX4 cC t0 t1 ch len cur verb fi se, wX7 cI mo0 mo1 mo2 mo3 mo4 q_p' q_sv' q_asd q_tx q_states' q_len q_at_ q_letter q_one q_two q_number]) [(0, .ref sb), (1, .ref h0), (2, .ref mo0), (3, .int (nI j))] 843 []) : KW Γ n z (wj [[(h0, .inr (6, [.ref h1, .ref (ah 0), .ref t0]))], [(h1, .inr (3, [.ref (a 0), .ref (b 0), .ref (d 0), .int k0, .int k1]))], bC cI a c, bC cI b s0, bC cI d s1, bH cI cR ah g nx sz, wX4 cC t0 t1 ch len cur verb fi se, wX7 cI mo0 mo1 mo2 mo3 mo4 q_p q_sv q_asd q_tx q_states q_len q_at_ q_letter q_one q_two q_number]) [(0, .ref sb), (1, .ref h0), (2, .ref mo0), (3, .int (nI j))] 356 [] := by
  unfold f_L_6 at hF
  refine kw_aload_n X dL_law_356 rfl 1 rfl ?_
  refine kw_aload_n X dL_law_357 rfl 0 rfl ?_
  refine kw_iload_n X dL_law_358 rfl 3 rfl ?_
  refine kw_iconst X dL_law_359 ci_1 ?_
  refine kw_iadd X dL_law_360 ?_
  refine kl_sld (v := sc1) X S (ld_at (k := 1) (by decide) (by omega) hL).1 (by rw [(ld_at (k := 1) (by decide) (by omega) hL).2]; exact hs1) dL_law_361 ?_
  refine kw_aload_n X dL_law_362 rfl 0 rfl ?_
  refine kw_iload_n X dL_law_363 rfl 3 rfl ?_
  refine kw_iconst X dL_law_364 ci_2 ?_
  refine kw_iadd X dL_law_365 ?_
  refine kl_sld (v := sc2) X S (ld_at (k := 2) (by decide) (by omega) hL).1 (by rw [(ld_at (k := 2) (by decide) (by omega) hL).2]; exact hs2) dL_law_366 ?_
  refine kw_aload_n X dL_law_367 rfl 0 rfl ?_
  refine kw_iload_n X dL_law_368 rfl 3 rfl ?_
  refine kw_iconst X dL_law_369 ci_3 ?_
  refine kw_iadd X dL_law_370 ?_
  refine kl_sld (v := sc3) X S (ld_at (k := 3) (by decide) (by omega) hL).1 (by rw [(ld_at (k := 3) (by decide) (by omega) hL).2]; exact hs3) dL_law_371 ?_
  obtain ⟨b1, m2, m3, m4, b5, hx5, hF⟩ := ob5_ex hF
  refine kb_mei X (r := .int b1) (As := [.int sc1, .int sc2, .int sc3]) (st := []) (bs' := [[(h0, .inr (6, [.ref h1, .ref (ah 0), .ref t0]))], [(h1, .inr (3, [.ref (a 0), .ref (b 0), .ref (d 0), .int k0, .int k1]))], bC cI a m2, bC cI b s0, bC cI d s1, bH cI cR ah m3 m4 b5, wX4 cC t0 t1 ch len cur verb fi se, wX7 cI mo0 mo1 mo2 mo3 mo4 q_p q_sv q_asd q_tx q_states q_len q_at_ q_letter q_one q_two q_number]) E (c_X6_unload l D cI cC cR h0 h1 t0 t1 a b d ah c s0 s1 k0 k1 g nx sz ch len cur verb fi se sc1 sc2 sc3 hb_k0 hb_k1 hnx hb_g Z b1 m2 m3 m4 b5 hx5) vl_L_39 yv_X6_unload ⟨Nat.le_of_ble_eq_true rfl, Nat.le_of_ble_eq_true rfl⟩ ⟨rfl, rfl⟩ hnz 0 0 rfl rfl rfl [0, 1, 2, 3, 4, 5, 6] rfl rfl rfl rfl (Nat.le_of_ble_eq_true rfl) dL_law_372 (wa_c rfl (wa_c rfl (wa_c bC_same (wa_c rfl (wa_c rfl (wa_c bH_same (wa_c rfl rfl))))))) rfl ?_
  refine kw_aload_n X dL_law_375 rfl 2 rfl ?_
  refine kw_aload_n X dL_law_376 rfl 0 rfl ?_
  refine kw_iload_n X dL_law_377 rfl 3 rfl ?_
  refine kw_iconst X dL_law_378 ci_1 ?_
  refine kw_iadd X dL_law_379 ?_
  refine kl_sld (v := sc1) X S (ld_at (k := 1) (by decide) (by omega) hL).1 (by rw [(ld_at (k := 1) (by decide) (by omega) hL).2]; exact hs1) dL_law_380 ?_
  refine kw_aload_n X dL_law_381 rfl 0 rfl ?_
  refine kw_iload_n X dL_law_382 rfl 3 rfl ?_
  refine kw_iconst X dL_law_383 ci_2 ?_
  refine kw_iadd X dL_law_384 ?_
  refine kl_sld (v := sc2) X S (ld_at (k := 2) (by decide) (by omega) hL).1 (by rw [(ld_at (k := 2) (by decide) (by omega) hL).2]; exact hs2) dL_law_385 ?_
  refine kw_aload_n X dL_law_386 rfl 0 rfl ?_
  refine kw_iload_n X dL_law_387 rfl 3 rfl ?_
  refine kw_iconst X dL_law_388 ci_3 ?_
  refine kw_iadd X dL_law_389 ?_
  refine kl_sld (v := sc3) X S (ld_at (k := 3) (by decide) (by omega) hL).1 (by rw [(ld_at (k := 3) (by decide) (by omega) hL).2]; exact hs3) dL_law_390 ?_
  obtain ⟨b6, m7, m8, b9, hx9, hF⟩ := ob4_ex hF
  refine kb_aei X (r := .int b6) (As := [.int sc1, .int sc2, .int sc3]) (st := [.int b1]) (bs' := [[(h0, .inr (6, [.ref h1, .ref (ah 0), .ref t0]))], [(h1, .inr (3, [.ref (a 0), .ref (b 0), .ref (d 0), .int k0, .int k1]))], bC cI a m2, bC cI b s0, bC cI d s1, bH cI cR ah m3 m4 b5, wX4 cC t0 t1 ch len cur verb fi se, wX7 cI mo0 mo1 mo2 mo3 mo4 m7 m8 q_asd q_tx b9 q_len q_at_ q_letter q_one q_two q_number]) E (c_X7_unload l D cI cC cR mo0 mo1 mo2 mo3 mo4 q_p q_sv q_asd q_tx q_states q_len q_at_ q_letter q_one q_two q_number sc1 sc2 sc3 Z b6 m7 m8 b9 hx9) vl_L_42 yv_X7_unload ⟨Nat.le_of_ble_eq_true rfl, Nat.le_of_ble_eq_true rfl⟩ ⟨rfl, rfl⟩ hnz 7 0 rfl rfl rfl rfl rfl (Nat.le_of_ble_eq_true rfl) dL_law_391 [mo0, mo1, mo2, mo3, mo4] rfl rfl rfl ?_
  refine kw_icmp_eq X 843 dL_law_394 (by decide) (fun q10 => ?_) (fun q10 => ?_)
  · replace hF := (if_pos q10).symm.trans hF
    obtain ⟨rfl, rfl, rfl, rfl, rfl, rfl, rfl⟩ := si7 hF
    exact kk
  · replace hF := (if_neg q10).symm.trans hF
    refine kw_iconst X dL_law_397 ci_0 ?_
    exact none_some hF
-- L_case7
def f_L_7 (Z : Nat) (c : CV) (s0 : CV) (s1 : CV) (k0 : Int32) (k1 : Int32) (g : Nat → SV) (nx : Nat) (sz : Int32) (q_p : Nat → Int32) (q_sv : Nat → Int32) (q_states : Int32) (sc1 : Int32) : Option (CV × (Nat → SV) × Nat × Int32 × (Nat → Int32) × (Nat → Int32) × Int32) :=
  (ob5 (f_X6_toWorkshop Z c s0 s1 k0 k1 g nx sz sc1) (fun (b1 : Int32) (m2 : CV) (m3 : Nat → SV) (m4 : Nat) (b5 : Int32) => (ob4 (f_X7_toWorkshop Z q_p q_sv q_states sc1) (fun (b6 : Int32) (m7 : Nat → Int32) (m8 : Nat → Int32) (b9 : Int32) => (if b1 = b6 then (some (m2, m3, m4, b5, m7, m8, b9)) else none)))))
set_option maxHeartbeats 4000000 in
set_option maxRecDepth 100000 in
theorem c_L_7 {Γ : KG} {w0 : Cond} (l : Launch) (D : va_G) (cI cC cR : ClassId) (sb L : Nat) (xs : Nat → Int32) (X : KX Γ l room_1 D (TY cI cC cR) code 4 "RibbedLoansLaw" w0) (E : KE Γ) (S : KL Γ sb L xs) {n z : Nat} (hnz : n ≤ room_1.cells ∧ z ≤ room_1.slots) (h0 h1 t0 t1 : Nat) (a b d ah : Nat → Nat) (mo0 mo1 mo2 mo3 mo4 : Nat) (c : CV) (s0 : CV) (s1 : CV) (k0 : Int32) (k1 : Int32) (g : Nat → SV) (nx : Nat) (sz : Int32) (ch : Nat → Int32) (len : Int32) (cur : Int32) (verb : Int32) (fi : Int32) (se : Int32) (q_p : Nat → Int32) (q_sv : Nat → Int32) (q_asd : Nat → Int32) (q_tx : Nat → Int32) (q_states : Int32) (q_len : Int32) (q_at_ : Int32) (q_letter : Int32) (q_one : Int32) (q_two : Int32) (q_number : Int32) (j : Nat) (hj : j + 3 < L) (hL : L ≤ 2048) (hb_k0 : k0 = 0 ∨ k0 = 1) (hb_k1 : k1 = 0 ∨ k1 = 1) (hnx : nx < 5) (hb_g : ∀ i, ((g i).2.2.2.1 = 0 ∨ (g i).2.2.2.1 = 1) ∧ ((g i).2.2.2.2 = 0 ∨ (g i).2.2.2.2 = 1)) (Z : Nat) (sc1 sc2 sc3 : Int32) (hs1 : xs (j + 1) = sc1) (hs2 : xs (j + 2) = sc2) (hs3 : xs (j + 3) = sc3) (c' : CV) (g' : Nat → SV) (nx' : Nat) (sz' : Int32) (q_p' : Nat → Int32) (q_sv' : Nat → Int32) (q_states' : Int32) (hF : f_L_7 Z c s0 s1 k0 k1 g nx sz q_p q_sv q_states sc1 = some (c', g', nx', sz', q_p', q_sv', q_states')) (kk : KW Γ n z (wj [[(h0, .inr (6, [.ref h1, .ref (ah 0), .ref t0]))], [(h1, .inr (3, [.ref (a 0), .ref (b 0), .ref (d 0), .int k0, .int k1]))], bC cI a c', bC cI b s0, bC cI d s1, bH cI cR ah g' nx' sz', wX4 cC t0 t1 ch len cur verb fi se, wX7 cI mo0 mo1 mo2 mo3 mo4 q_p' q_sv' q_asd q_tx q_states' q_len q_at_ q_letter q_one q_two q_number]) [(0, .ref sb), (1, .ref h0), (2, .ref mo0), (3, .int (nI j))] 843 []) : KW Γ n z (wj [[(h0, .inr (6, [.ref h1, .ref (ah 0), .ref t0]))], [(h1, .inr (3, [.ref (a 0), .ref (b 0), .ref (d 0), .int k0, .int k1]))], bC cI a c, bC cI b s0, bC cI d s1, bH cI cR ah g nx sz, wX4 cC t0 t1 ch len cur verb fi se, wX7 cI mo0 mo1 mo2 mo3 mo4 q_p q_sv q_asd q_tx q_states q_len q_at_ q_letter q_one q_two q_number]) [(0, .ref sb), (1, .ref h0), (2, .ref mo0), (3, .int (nI j))] 399 [] := by
  unfold f_L_7 at hF
  refine kw_aload_n X dL_law_399 rfl 1 rfl ?_
  refine kw_aload_n X dL_law_400 rfl 0 rfl ?_
  refine kw_iload_n X dL_law_401 rfl 3 rfl ?_
  refine kw_iconst X dL_law_402 ci_1 ?_
  refine kw_iadd X dL_law_403 ?_
  refine kl_sld (v := sc1) X S (ld_at (k := 1) (by decide) (by omega) hL).1 (by rw [(ld_at (k := 1) (by decide) (by omega) hL).2]; exact hs1) dL_law_404 ?_
  obtain ⟨b1, m2, m3, m4, b5, hx5, hF⟩ := ob5_ex hF
  refine kb_mei X (r := .int b1) (As := [.int sc1]) (st := []) (bs' := [[(h0, .inr (6, [.ref h1, .ref (ah 0), .ref t0]))], [(h1, .inr (3, [.ref (a 0), .ref (b 0), .ref (d 0), .int k0, .int k1]))], bC cI a m2, bC cI b s0, bC cI d s1, bH cI cR ah m3 m4 b5, wX4 cC t0 t1 ch len cur verb fi se, wX7 cI mo0 mo1 mo2 mo3 mo4 q_p q_sv q_asd q_tx q_states q_len q_at_ q_letter q_one q_two q_number]) E (c_X6_toWorkshop l D cI cC cR h0 h1 t0 t1 a b d ah c s0 s1 k0 k1 g nx sz ch len cur verb fi se sc1 hb_k0 hb_k1 hnx hb_g Z b1 m2 m3 m4 b5 hx5) vl_L_43 yv_X6_toWorkshop ⟨Nat.le_of_ble_eq_true rfl, Nat.le_of_ble_eq_true rfl⟩ ⟨rfl, rfl⟩ hnz 0 0 rfl rfl rfl [0, 1, 2, 3, 4, 5, 6] rfl rfl rfl rfl (Nat.le_of_ble_eq_true rfl) dL_law_405 (wa_c rfl (wa_c rfl (wa_c bC_same (wa_c rfl (wa_c rfl (wa_c bH_same (wa_c rfl rfl))))))) rfl ?_
  refine kw_aload_n X dL_law_408 rfl 2 rfl ?_
  refine kw_aload_n X dL_law_409 rfl 0 rfl ?_
  refine kw_iload_n X dL_law_410 rfl 3 rfl ?_
  refine kw_iconst X dL_law_411 ci_1 ?_
  refine kw_iadd X dL_law_412 ?_
  refine kl_sld (v := sc1) X S (ld_at (k := 1) (by decide) (by omega) hL).1 (by rw [(ld_at (k := 1) (by decide) (by omega) hL).2]; exact hs1) dL_law_413 ?_
  obtain ⟨b6, m7, m8, b9, hx9, hF⟩ := ob4_ex hF
  refine kb_aei X (r := .int b6) (As := [.int sc1]) (st := [.int b1]) (bs' := [[(h0, .inr (6, [.ref h1, .ref (ah 0), .ref t0]))], [(h1, .inr (3, [.ref (a 0), .ref (b 0), .ref (d 0), .int k0, .int k1]))], bC cI a m2, bC cI b s0, bC cI d s1, bH cI cR ah m3 m4 b5, wX4 cC t0 t1 ch len cur verb fi se, wX7 cI mo0 mo1 mo2 mo3 mo4 m7 m8 q_asd q_tx b9 q_len q_at_ q_letter q_one q_two q_number]) E (c_X7_toWorkshop l D cI cC cR mo0 mo1 mo2 mo3 mo4 q_p q_sv q_asd q_tx q_states q_len q_at_ q_letter q_one q_two q_number sc1 Z b6 m7 m8 b9 hx9) vl_L_47 yv_X7_toWorkshop ⟨Nat.le_of_ble_eq_true rfl, Nat.le_of_ble_eq_true rfl⟩ ⟨rfl, rfl⟩ hnz 7 0 rfl rfl rfl rfl rfl (Nat.le_of_ble_eq_true rfl) dL_law_414 [mo0, mo1, mo2, mo3, mo4] rfl rfl rfl ?_
  refine kw_icmp_eq X 843 dL_law_417 (by decide) (fun q10 => ?_) (fun q10 => ?_)
  · replace hF := (if_pos q10).symm.trans hF
    obtain ⟨rfl, rfl, rfl, rfl, rfl, rfl, rfl⟩ := si7 hF
    exact kk
  · replace hF := (if_neg q10).symm.trans hF
    refine kw_iconst X dL_law_420 ci_0 ?_
    exact none_some hF
-- L_case8
def f_L_8 (Z : Nat) (c : CV) (s0 : CV) (s1 : CV) (k0 : Int32) (k1 : Int32) (g : Nat → SV) (nx : Nat) (sz : Int32) (q_p : Nat → Int32) (q_sv : Nat → Int32) (q_states : Int32) (sc1 : Int32) : Option (CV × (Nat → SV) × Nat × Int32 × (Nat → Int32) × (Nat → Int32) × Int32) :=
  (ob5 (f_X6_mend Z c s0 s1 k0 k1 g nx sz sc1) (fun (b1 : Int32) (m2 : CV) (m3 : Nat → SV) (m4 : Nat) (b5 : Int32) => (ob4 (f_X7_mend Z q_p q_sv q_states sc1) (fun (b6 : Int32) (m7 : Nat → Int32) (m8 : Nat → Int32) (b9 : Int32) => (if b1 = b6 then (some (m2, m3, m4, b5, m7, m8, b9)) else none)))))
set_option maxHeartbeats 4000000 in
set_option maxRecDepth 100000 in
theorem c_L_8 {Γ : KG} {w0 : Cond} (l : Launch) (D : va_G) (cI cC cR : ClassId) (sb L : Nat) (xs : Nat → Int32) (X : KX Γ l room_1 D (TY cI cC cR) code 4 "RibbedLoansLaw" w0) (E : KE Γ) (S : KL Γ sb L xs) {n z : Nat} (hnz : n ≤ room_1.cells ∧ z ≤ room_1.slots) (h0 h1 t0 t1 : Nat) (a b d ah : Nat → Nat) (mo0 mo1 mo2 mo3 mo4 : Nat) (c : CV) (s0 : CV) (s1 : CV) (k0 : Int32) (k1 : Int32) (g : Nat → SV) (nx : Nat) (sz : Int32) (ch : Nat → Int32) (len : Int32) (cur : Int32) (verb : Int32) (fi : Int32) (se : Int32) (q_p : Nat → Int32) (q_sv : Nat → Int32) (q_asd : Nat → Int32) (q_tx : Nat → Int32) (q_states : Int32) (q_len : Int32) (q_at_ : Int32) (q_letter : Int32) (q_one : Int32) (q_two : Int32) (q_number : Int32) (j : Nat) (hj : j + 3 < L) (hL : L ≤ 2048) (hb_k0 : k0 = 0 ∨ k0 = 1) (hb_k1 : k1 = 0 ∨ k1 = 1) (hnx : nx < 5) (hb_g : ∀ i, ((g i).2.2.2.1 = 0 ∨ (g i).2.2.2.1 = 1) ∧ ((g i).2.2.2.2 = 0 ∨ (g i).2.2.2.2 = 1)) (Z : Nat) (sc1 sc2 sc3 : Int32) (hs1 : xs (j + 1) = sc1) (hs2 : xs (j + 2) = sc2) (hs3 : xs (j + 3) = sc3) (c' : CV) (g' : Nat → SV) (nx' : Nat) (sz' : Int32) (q_p' : Nat → Int32) (q_sv' : Nat → Int32) (q_states' : Int32) (hF : f_L_8 Z c s0 s1 k0 k1 g nx sz q_p q_sv q_states sc1 = some (c', g', nx', sz', q_p', q_sv', q_states')) (kk : KW Γ n z (wj [[(h0, .inr (6, [.ref h1, .ref (ah 0), .ref t0]))], [(h1, .inr (3, [.ref (a 0), .ref (b 0), .ref (d 0), .int k0, .int k1]))], bC cI a c', bC cI b s0, bC cI d s1, bH cI cR ah g' nx' sz', wX4 cC t0 t1 ch len cur verb fi se, wX7 cI mo0 mo1 mo2 mo3 mo4 q_p' q_sv' q_asd q_tx q_states' q_len q_at_ q_letter q_one q_two q_number]) [(0, .ref sb), (1, .ref h0), (2, .ref mo0), (3, .int (nI j))] 843 []) : KW Γ n z (wj [[(h0, .inr (6, [.ref h1, .ref (ah 0), .ref t0]))], [(h1, .inr (3, [.ref (a 0), .ref (b 0), .ref (d 0), .int k0, .int k1]))], bC cI a c, bC cI b s0, bC cI d s1, bH cI cR ah g nx sz, wX4 cC t0 t1 ch len cur verb fi se, wX7 cI mo0 mo1 mo2 mo3 mo4 q_p q_sv q_asd q_tx q_states q_len q_at_ q_letter q_one q_two q_number]) [(0, .ref sb), (1, .ref h0), (2, .ref mo0), (3, .int (nI j))] 422 [] := by
  unfold f_L_8 at hF
  refine kw_aload_n X dL_law_422 rfl 1 rfl ?_
  refine kw_aload_n X dL_law_423 rfl 0 rfl ?_
  refine kw_iload_n X dL_law_424 rfl 3 rfl ?_
  refine kw_iconst X dL_law_425 ci_1 ?_
  refine kw_iadd X dL_law_426 ?_
  refine kl_sld (v := sc1) X S (ld_at (k := 1) (by decide) (by omega) hL).1 (by rw [(ld_at (k := 1) (by decide) (by omega) hL).2]; exact hs1) dL_law_427 ?_
  obtain ⟨b1, m2, m3, m4, b5, hx5, hF⟩ := ob5_ex hF
  refine kb_mei X (r := .int b1) (As := [.int sc1]) (st := []) (bs' := [[(h0, .inr (6, [.ref h1, .ref (ah 0), .ref t0]))], [(h1, .inr (3, [.ref (a 0), .ref (b 0), .ref (d 0), .int k0, .int k1]))], bC cI a m2, bC cI b s0, bC cI d s1, bH cI cR ah m3 m4 b5, wX4 cC t0 t1 ch len cur verb fi se, wX7 cI mo0 mo1 mo2 mo3 mo4 q_p q_sv q_asd q_tx q_states q_len q_at_ q_letter q_one q_two q_number]) E (c_X6_mend l D cI cC cR h0 h1 t0 t1 a b d ah c s0 s1 k0 k1 g nx sz ch len cur verb fi se sc1 hb_k0 hb_k1 hnx hb_g Z b1 m2 m3 m4 b5 hx5) vl_L_48 yv_X6_mend ⟨Nat.le_of_ble_eq_true rfl, Nat.le_of_ble_eq_true rfl⟩ ⟨rfl, rfl⟩ hnz 0 0 rfl rfl rfl [0, 1, 2, 3, 4, 5, 6] rfl rfl rfl rfl (Nat.le_of_ble_eq_true rfl) dL_law_428 (wa_c rfl (wa_c rfl (wa_c bC_same (wa_c rfl (wa_c rfl (wa_c bH_same (wa_c rfl rfl))))))) rfl ?_
  refine kw_aload_n X dL_law_431 rfl 2 rfl ?_
  refine kw_aload_n X dL_law_432 rfl 0 rfl ?_
  refine kw_iload_n X dL_law_433 rfl 3 rfl ?_
  refine kw_iconst X dL_law_434 ci_1 ?_
  refine kw_iadd X dL_law_435 ?_
  refine kl_sld (v := sc1) X S (ld_at (k := 1) (by decide) (by omega) hL).1 (by rw [(ld_at (k := 1) (by decide) (by omega) hL).2]; exact hs1) dL_law_436 ?_
  obtain ⟨b6, m7, m8, b9, hx9, hF⟩ := ob4_ex hF
  refine kb_aei X (r := .int b6) (As := [.int sc1]) (st := [.int b1]) (bs' := [[(h0, .inr (6, [.ref h1, .ref (ah 0), .ref t0]))], [(h1, .inr (3, [.ref (a 0), .ref (b 0), .ref (d 0), .int k0, .int k1]))], bC cI a m2, bC cI b s0, bC cI d s1, bH cI cR ah m3 m4 b5, wX4 cC t0 t1 ch len cur verb fi se, wX7 cI mo0 mo1 mo2 mo3 mo4 m7 m8 q_asd q_tx b9 q_len q_at_ q_letter q_one q_two q_number]) E (c_X7_mend l D cI cC cR mo0 mo1 mo2 mo3 mo4 q_p q_sv q_asd q_tx q_states q_len q_at_ q_letter q_one q_two q_number sc1 Z b6 m7 m8 b9 hx9) vl_L_51 yv_X7_mend ⟨Nat.le_of_ble_eq_true rfl, Nat.le_of_ble_eq_true rfl⟩ ⟨rfl, rfl⟩ hnz 7 0 rfl rfl rfl rfl rfl (Nat.le_of_ble_eq_true rfl) dL_law_437 [mo0, mo1, mo2, mo3, mo4] rfl rfl rfl ?_
  refine kw_icmp_eq X 843 dL_law_440 (by decide) (fun q10 => ?_) (fun q10 => ?_)
  · replace hF := (if_pos q10).symm.trans hF
    obtain ⟨rfl, rfl, rfl, rfl, rfl, rfl, rfl⟩ := si7 hF
    exact kk
  · replace hF := (if_neg q10).symm.trans hF
    refine kw_iconst X dL_law_443 ci_0 ?_
    exact none_some hF
-- L_case9
def f_L_9 (Z : Nat) (c : CV) (s0 : CV) (s1 : CV) (k0 : Int32) (k1 : Int32) (g : Nat → SV) (nx : Nat) (sz : Int32) (q_p : Nat → Int32) (q_sv : Nat → Int32) (q_states : Int32) : Option (CV × (Nat → SV) × Nat × Int32 × (Nat → Int32) × (Nat → Int32) × Int32) :=
  (ob5 (f_X6_level Z c s0 s1 k0 k1 g nx sz) (fun (b1 : Int32) (m2 : CV) (m3 : Nat → SV) (m4 : Nat) (b5 : Int32) => (ob4 (f_X7_level Z q_p q_sv q_states) (fun (b6 : Int32) (m7 : Nat → Int32) (m8 : Nat → Int32) (b9 : Int32) => (if b1 = b6 then (some (m2, m3, m4, b5, m7, m8, b9)) else none)))))
set_option maxHeartbeats 4000000 in
set_option maxRecDepth 100000 in
theorem c_L_9 {Γ : KG} {w0 : Cond} (l : Launch) (D : va_G) (cI cC cR : ClassId) (sb L : Nat) (xs : Nat → Int32) (X : KX Γ l room_1 D (TY cI cC cR) code 4 "RibbedLoansLaw" w0) (E : KE Γ) (S : KL Γ sb L xs) {n z : Nat} (hnz : n ≤ room_1.cells ∧ z ≤ room_1.slots) (h0 h1 t0 t1 : Nat) (a b d ah : Nat → Nat) (mo0 mo1 mo2 mo3 mo4 : Nat) (c : CV) (s0 : CV) (s1 : CV) (k0 : Int32) (k1 : Int32) (g : Nat → SV) (nx : Nat) (sz : Int32) (ch : Nat → Int32) (len : Int32) (cur : Int32) (verb : Int32) (fi : Int32) (se : Int32) (q_p : Nat → Int32) (q_sv : Nat → Int32) (q_asd : Nat → Int32) (q_tx : Nat → Int32) (q_states : Int32) (q_len : Int32) (q_at_ : Int32) (q_letter : Int32) (q_one : Int32) (q_two : Int32) (q_number : Int32) (j : Nat) (hj : j + 3 < L) (hL : L ≤ 2048) (hb_k0 : k0 = 0 ∨ k0 = 1) (hb_k1 : k1 = 0 ∨ k1 = 1) (hnx : nx < 5) (hb_g : ∀ i, ((g i).2.2.2.1 = 0 ∨ (g i).2.2.2.1 = 1) ∧ ((g i).2.2.2.2 = 0 ∨ (g i).2.2.2.2 = 1)) (Z : Nat) (sc1 sc2 sc3 : Int32) (hs1 : xs (j + 1) = sc1) (hs2 : xs (j + 2) = sc2) (hs3 : xs (j + 3) = sc3) (c' : CV) (g' : Nat → SV) (nx' : Nat) (sz' : Int32) (q_p' : Nat → Int32) (q_sv' : Nat → Int32) (q_states' : Int32) (hF : f_L_9 Z c s0 s1 k0 k1 g nx sz q_p q_sv q_states = some (c', g', nx', sz', q_p', q_sv', q_states')) (kk : KW Γ n z (wj [[(h0, .inr (6, [.ref h1, .ref (ah 0), .ref t0]))], [(h1, .inr (3, [.ref (a 0), .ref (b 0), .ref (d 0), .int k0, .int k1]))], bC cI a c', bC cI b s0, bC cI d s1, bH cI cR ah g' nx' sz', wX4 cC t0 t1 ch len cur verb fi se, wX7 cI mo0 mo1 mo2 mo3 mo4 q_p' q_sv' q_asd q_tx q_states' q_len q_at_ q_letter q_one q_two q_number]) [(0, .ref sb), (1, .ref h0), (2, .ref mo0), (3, .int (nI j))] 843 []) : KW Γ n z (wj [[(h0, .inr (6, [.ref h1, .ref (ah 0), .ref t0]))], [(h1, .inr (3, [.ref (a 0), .ref (b 0), .ref (d 0), .int k0, .int k1]))], bC cI a c, bC cI b s0, bC cI d s1, bH cI cR ah g nx sz, wX4 cC t0 t1 ch len cur verb fi se, wX7 cI mo0 mo1 mo2 mo3 mo4 q_p q_sv q_asd q_tx q_states q_len q_at_ q_letter q_one q_two q_number]) [(0, .ref sb), (1, .ref h0), (2, .ref mo0), (3, .int (nI j))] 445 [] := by
  unfold f_L_9 at hF
  refine kw_aload_n X dL_law_445 rfl 1 rfl ?_
  obtain ⟨b1, m2, m3, m4, b5, hx5, hF⟩ := ob5_ex hF
  refine kb_mei X (r := .int b1) (As := []) (st := []) (bs' := [[(h0, .inr (6, [.ref h1, .ref (ah 0), .ref t0]))], [(h1, .inr (3, [.ref (a 0), .ref (b 0), .ref (d 0), .int k0, .int k1]))], bC cI a m2, bC cI b s0, bC cI d s1, bH cI cR ah m3 m4 b5, wX4 cC t0 t1 ch len cur verb fi se, wX7 cI mo0 mo1 mo2 mo3 mo4 q_p q_sv q_asd q_tx q_states q_len q_at_ q_letter q_one q_two q_number]) E (c_X6_level l D cI cC cR h0 h1 t0 t1 a b d ah c s0 s1 k0 k1 g nx sz ch len cur verb fi se hb_k0 hb_k1 hnx hb_g Z b1 m2 m3 m4 b5 hx5) vl_L_52 yv_X6_level ⟨Nat.le_of_ble_eq_true rfl, Nat.le_of_ble_eq_true rfl⟩ ⟨rfl, rfl⟩ hnz 0 0 rfl rfl rfl [0, 1, 2, 3, 4, 5, 6] rfl rfl rfl rfl (Nat.le_of_ble_eq_true rfl) dL_law_446 (wa_c rfl (wa_c rfl (wa_c bC_same (wa_c rfl (wa_c rfl (wa_c bH_same (wa_c rfl rfl))))))) rfl ?_
  refine kw_aload_n X dL_law_449 rfl 2 rfl ?_
  obtain ⟨b6, m7, m8, b9, hx9, hF⟩ := ob4_ex hF
  refine kb_aei X (r := .int b6) (As := []) (st := [.int b1]) (bs' := [[(h0, .inr (6, [.ref h1, .ref (ah 0), .ref t0]))], [(h1, .inr (3, [.ref (a 0), .ref (b 0), .ref (d 0), .int k0, .int k1]))], bC cI a m2, bC cI b s0, bC cI d s1, bH cI cR ah m3 m4 b5, wX4 cC t0 t1 ch len cur verb fi se, wX7 cI mo0 mo1 mo2 mo3 mo4 m7 m8 q_asd q_tx b9 q_len q_at_ q_letter q_one q_two q_number]) E (c_X7_level l D cI cC cR mo0 mo1 mo2 mo3 mo4 q_p q_sv q_asd q_tx q_states q_len q_at_ q_letter q_one q_two q_number Z b6 m7 m8 b9 hx9) vl_L_56 yv_X7_level ⟨Nat.le_of_ble_eq_true rfl, Nat.le_of_ble_eq_true rfl⟩ ⟨rfl, rfl⟩ hnz 7 0 rfl rfl rfl rfl rfl (Nat.le_of_ble_eq_true rfl) dL_law_450 [mo0, mo1, mo2, mo3, mo4] rfl rfl rfl ?_
  refine kw_icmp_eq X 843 dL_law_453 (by decide) (fun q10 => ?_) (fun q10 => ?_)
  · replace hF := (if_pos q10).symm.trans hF
    obtain ⟨rfl, rfl, rfl, rfl, rfl, rfl, rfl⟩ := si7 hF
    exact kk
  · replace hF := (if_neg q10).symm.trans hF
    refine kw_iconst X dL_law_456 ci_0 ?_
    exact none_some hF
-- L_case10
def f_L_10 (Z : Nat) (c : CV) (s0 : CV) (s1 : CV) (k0 : Int32) (k1 : Int32) (g : Nat → SV) (nx : Nat) (sz : Int32) (q_p : Nat → Int32) (q_sv : Nat → Int32) (q_states : Int32) (sc1 : Int32) : Option (CV × CV × Int32 × Int32 × (Nat → SV) × Nat × Int32 × (Nat → Int32) × (Nat → Int32) × Int32) :=
  (pl8 (f_X6_take c s0 s1 k0 k1 g nx sz sc1) (fun (b1 : Int32) (m2 : CV) (m3 : CV) (b4 : Int32) (b5 : Int32) (m6 : Nat → SV) (m7 : Nat) (b8 : Int32) => (ob4 (f_X7_take Z q_p q_sv q_states sc1) (fun (b9 : Int32) (m10 : Nat → Int32) (m11 : Nat → Int32) (b12 : Int32) => (if b1 = b9 then (some (m2, m3, b4, b5, m6, m7, b8, m10, m11, b12)) else none)))))
set_option maxHeartbeats 4000000 in
set_option maxRecDepth 100000 in
theorem c_L_10 {Γ : KG} {w0 : Cond} (l : Launch) (D : va_G) (cI cC cR : ClassId) (sb L : Nat) (xs : Nat → Int32) (X : KX Γ l room_1 D (TY cI cC cR) code 4 "RibbedLoansLaw" w0) (E : KE Γ) (S : KL Γ sb L xs) {n z : Nat} (hnz : n ≤ room_1.cells ∧ z ≤ room_1.slots) (h0 h1 t0 t1 : Nat) (a b d ah : Nat → Nat) (mo0 mo1 mo2 mo3 mo4 : Nat) (c : CV) (s0 : CV) (s1 : CV) (k0 : Int32) (k1 : Int32) (g : Nat → SV) (nx : Nat) (sz : Int32) (ch : Nat → Int32) (len : Int32) (cur : Int32) (verb : Int32) (fi : Int32) (se : Int32) (q_p : Nat → Int32) (q_sv : Nat → Int32) (q_asd : Nat → Int32) (q_tx : Nat → Int32) (q_states : Int32) (q_len : Int32) (q_at_ : Int32) (q_letter : Int32) (q_one : Int32) (q_two : Int32) (q_number : Int32) (j : Nat) (hj : j + 3 < L) (hL : L ≤ 2048) (hb_k0 : k0 = 0 ∨ k0 = 1) (hb_k1 : k1 = 0 ∨ k1 = 1) (hnx : nx < 5) (hb_g : ∀ i, ((g i).2.2.2.1 = 0 ∨ (g i).2.2.2.1 = 1) ∧ ((g i).2.2.2.2 = 0 ∨ (g i).2.2.2.2 = 1)) (Z : Nat) (sc1 sc2 sc3 : Int32) (hs1 : xs (j + 1) = sc1) (hs2 : xs (j + 2) = sc2) (hs3 : xs (j + 3) = sc3) (s0' : CV) (s1' : CV) (k0' : Int32) (k1' : Int32) (g' : Nat → SV) (nx' : Nat) (sz' : Int32) (q_p' : Nat → Int32) (q_sv' : Nat → Int32) (q_states' : Int32) (hF : f_L_10 Z c s0 s1 k0 k1 g nx sz q_p q_sv q_states sc1 = some (s0', s1', k0', k1', g', nx', sz', q_p', q_sv', q_states')) (kk : KW Γ n z (wj [[(h0, .inr (6, [.ref h1, .ref (ah 0), .ref t0]))], [(h1, .inr (3, [.ref (a 0), .ref (b 0), .ref (d 0), .int k0', .int k1']))], bC cI a c, bC cI b s0', bC cI d s1', bH cI cR ah g' nx' sz', wX4 cC t0 t1 ch len cur verb fi se, wX7 cI mo0 mo1 mo2 mo3 mo4 q_p' q_sv' q_asd q_tx q_states' q_len q_at_ q_letter q_one q_two q_number]) [(0, .ref sb), (1, .ref h0), (2, .ref mo0), (3, .int (nI j))] 843 []) : KW Γ n z (wj [[(h0, .inr (6, [.ref h1, .ref (ah 0), .ref t0]))], [(h1, .inr (3, [.ref (a 0), .ref (b 0), .ref (d 0), .int k0, .int k1]))], bC cI a c, bC cI b s0, bC cI d s1, bH cI cR ah g nx sz, wX4 cC t0 t1 ch len cur verb fi se, wX7 cI mo0 mo1 mo2 mo3 mo4 q_p q_sv q_asd q_tx q_states q_len q_at_ q_letter q_one q_two q_number]) [(0, .ref sb), (1, .ref h0), (2, .ref mo0), (3, .int (nI j))] 458 [] := by
  unfold f_L_10 at hF
  refine kw_aload_n X dL_law_458 rfl 1 rfl ?_
  refine kw_aload_n X dL_law_459 rfl 0 rfl ?_
  refine kw_iload_n X dL_law_460 rfl 3 rfl ?_
  refine kw_iconst X dL_law_461 ci_1 ?_
  refine kw_iadd X dL_law_462 ?_
  refine kl_sld (v := sc1) X S (ld_at (k := 1) (by decide) (by omega) hL).1 (by rw [(ld_at (k := 1) (by decide) (by omega) hL).2]; exact hs1) dL_law_463 ?_
  obtain ⟨b1, m2, m3, b4, b5, m6, m7, b8, hx8, hF⟩ := pl8_ex hF
  refine kb_mei X (r := .int b1) (As := [.int sc1]) (st := []) (bs' := [[(h0, .inr (6, [.ref h1, .ref (ah 0), .ref t0]))], [(h1, .inr (3, [.ref (a 0), .ref (b 0), .ref (d 0), .int b4, .int b5]))], bC cI a c, bC cI b m2, bC cI d m3, bH cI cR ah m6 m7 b8, wX4 cC t0 t1 ch len cur verb fi se, wX7 cI mo0 mo1 mo2 mo3 mo4 q_p q_sv q_asd q_tx q_states q_len q_at_ q_letter q_one q_two q_number]) E (c_X6_take l D cI cC cR h0 h1 t0 t1 a b d ah c s0 s1 k0 k1 g nx sz ch len cur verb fi se sc1 hb_k0 hb_k1 hnx hb_g b1 m2 m3 b4 b5 m6 m7 b8 hx8) vl_L_57 yv_X6_take ⟨Nat.le_of_ble_eq_true rfl, Nat.le_of_ble_eq_true rfl⟩ ⟨rfl, rfl⟩ hnz 0 0 rfl rfl rfl [0, 1, 2, 3, 4, 5, 6] rfl rfl rfl rfl (Nat.le_of_ble_eq_true rfl) dL_law_464 (wa_c rfl (wa_c c1_same (wa_c rfl (wa_c bC_same (wa_c bC_same (wa_c bH_same (wa_c rfl rfl))))))) rfl ?_
  refine kw_aload_n X dL_law_467 rfl 2 rfl ?_
  refine kw_aload_n X dL_law_468 rfl 0 rfl ?_
  refine kw_iload_n X dL_law_469 rfl 3 rfl ?_
  refine kw_iconst X dL_law_470 ci_1 ?_
  refine kw_iadd X dL_law_471 ?_
  refine kl_sld (v := sc1) X S (ld_at (k := 1) (by decide) (by omega) hL).1 (by rw [(ld_at (k := 1) (by decide) (by omega) hL).2]; exact hs1) dL_law_472 ?_
  obtain ⟨b9, m10, m11, b12, hx12, hF⟩ := ob4_ex hF
  refine kb_aei X (r := .int b9) (As := [.int sc1]) (st := [.int b1]) (bs' := [[(h0, .inr (6, [.ref h1, .ref (ah 0), .ref t0]))], [(h1, .inr (3, [.ref (a 0), .ref (b 0), .ref (d 0), .int b4, .int b5]))], bC cI a c, bC cI b m2, bC cI d m3, bH cI cR ah m6 m7 b8, wX4 cC t0 t1 ch len cur verb fi se, wX7 cI mo0 mo1 mo2 mo3 mo4 m10 m11 q_asd q_tx b12 q_len q_at_ q_letter q_one q_two q_number]) E (c_X7_take l D cI cC cR mo0 mo1 mo2 mo3 mo4 q_p q_sv q_asd q_tx q_states q_len q_at_ q_letter q_one q_two q_number sc1 Z b9 m10 m11 b12 hx12) vl_L_60 yv_X7_take ⟨Nat.le_of_ble_eq_true rfl, Nat.le_of_ble_eq_true rfl⟩ ⟨rfl, rfl⟩ hnz 7 0 rfl rfl rfl rfl rfl (Nat.le_of_ble_eq_true rfl) dL_law_473 [mo0, mo1, mo2, mo3, mo4] rfl rfl rfl ?_
  refine kw_icmp_eq X 843 dL_law_476 (by decide) (fun q13 => ?_) (fun q13 => ?_)
  · replace hF := (if_pos q13).symm.trans hF
    obtain ⟨rfl, rfl, rfl, rfl, rfl, rfl, rfl, rfl, rfl, rfl⟩ := si10 hF
    exact kk
  · replace hF := (if_neg q13).symm.trans hF
    refine kw_iconst X dL_law_479 ci_0 ?_
    exact none_some hF
-- L_case11
def f_L_11 (Z : Nat) (c : CV) (s0 : CV) (s1 : CV) (k0 : Int32) (k1 : Int32) (g : Nat → SV) (nx : Nat) (sz : Int32) (q_p : Nat → Int32) (q_sv : Nat → Int32) (q_states : Int32) (sc1 : Int32) : Option (CV × (Nat → SV) × Nat × Int32 × (Nat → Int32) × (Nat → Int32) × Int32) :=
  (pl5 (f_X6_restore c s0 s1 k0 k1 g nx sz sc1) (fun (b1 : Int32) (m2 : CV) (m3 : Nat → SV) (m4 : Nat) (b5 : Int32) => (ob4 (f_X7_restore Z q_p q_sv q_states sc1) (fun (b6 : Int32) (m7 : Nat → Int32) (m8 : Nat → Int32) (b9 : Int32) => (if b1 = b6 then (some (m2, m3, m4, b5, m7, m8, b9)) else none)))))
set_option maxHeartbeats 4000000 in
set_option maxRecDepth 100000 in
theorem c_L_11 {Γ : KG} {w0 : Cond} (l : Launch) (D : va_G) (cI cC cR : ClassId) (sb L : Nat) (xs : Nat → Int32) (X : KX Γ l room_1 D (TY cI cC cR) code 4 "RibbedLoansLaw" w0) (E : KE Γ) (S : KL Γ sb L xs) {n z : Nat} (hnz : n ≤ room_1.cells ∧ z ≤ room_1.slots) (h0 h1 t0 t1 : Nat) (a b d ah : Nat → Nat) (mo0 mo1 mo2 mo3 mo4 : Nat) (c : CV) (s0 : CV) (s1 : CV) (k0 : Int32) (k1 : Int32) (g : Nat → SV) (nx : Nat) (sz : Int32) (ch : Nat → Int32) (len : Int32) (cur : Int32) (verb : Int32) (fi : Int32) (se : Int32) (q_p : Nat → Int32) (q_sv : Nat → Int32) (q_asd : Nat → Int32) (q_tx : Nat → Int32) (q_states : Int32) (q_len : Int32) (q_at_ : Int32) (q_letter : Int32) (q_one : Int32) (q_two : Int32) (q_number : Int32) (j : Nat) (hj : j + 3 < L) (hL : L ≤ 2048) (hb_k0 : k0 = 0 ∨ k0 = 1) (hb_k1 : k1 = 0 ∨ k1 = 1) (hnx : nx < 5) (hb_g : ∀ i, ((g i).2.2.2.1 = 0 ∨ (g i).2.2.2.1 = 1) ∧ ((g i).2.2.2.2 = 0 ∨ (g i).2.2.2.2 = 1)) (Z : Nat) (sc1 sc2 sc3 : Int32) (hs1 : xs (j + 1) = sc1) (hs2 : xs (j + 2) = sc2) (hs3 : xs (j + 3) = sc3) (c' : CV) (g' : Nat → SV) (nx' : Nat) (sz' : Int32) (q_p' : Nat → Int32) (q_sv' : Nat → Int32) (q_states' : Int32) (hF : f_L_11 Z c s0 s1 k0 k1 g nx sz q_p q_sv q_states sc1 = some (c', g', nx', sz', q_p', q_sv', q_states')) (kk : KW Γ n z (wj [[(h0, .inr (6, [.ref h1, .ref (ah 0), .ref t0]))], [(h1, .inr (3, [.ref (a 0), .ref (b 0), .ref (d 0), .int k0, .int k1]))], bC cI a c', bC cI b s0, bC cI d s1, bH cI cR ah g' nx' sz', wX4 cC t0 t1 ch len cur verb fi se, wX7 cI mo0 mo1 mo2 mo3 mo4 q_p' q_sv' q_asd q_tx q_states' q_len q_at_ q_letter q_one q_two q_number]) [(0, .ref sb), (1, .ref h0), (2, .ref mo0), (3, .int (nI j))] 843 []) : KW Γ n z (wj [[(h0, .inr (6, [.ref h1, .ref (ah 0), .ref t0]))], [(h1, .inr (3, [.ref (a 0), .ref (b 0), .ref (d 0), .int k0, .int k1]))], bC cI a c, bC cI b s0, bC cI d s1, bH cI cR ah g nx sz, wX4 cC t0 t1 ch len cur verb fi se, wX7 cI mo0 mo1 mo2 mo3 mo4 q_p q_sv q_asd q_tx q_states q_len q_at_ q_letter q_one q_two q_number]) [(0, .ref sb), (1, .ref h0), (2, .ref mo0), (3, .int (nI j))] 481 [] := by
  unfold f_L_11 at hF
  refine kw_aload_n X dL_law_481 rfl 1 rfl ?_
  refine kw_aload_n X dL_law_482 rfl 0 rfl ?_
  refine kw_iload_n X dL_law_483 rfl 3 rfl ?_
  refine kw_iconst X dL_law_484 ci_1 ?_
  refine kw_iadd X dL_law_485 ?_
  refine kl_sld (v := sc1) X S (ld_at (k := 1) (by decide) (by omega) hL).1 (by rw [(ld_at (k := 1) (by decide) (by omega) hL).2]; exact hs1) dL_law_486 ?_
  obtain ⟨b1, m2, m3, m4, b5, hx5, hF⟩ := pl5_ex hF
  refine kb_mei X (r := .int b1) (As := [.int sc1]) (st := []) (bs' := [[(h0, .inr (6, [.ref h1, .ref (ah 0), .ref t0]))], [(h1, .inr (3, [.ref (a 0), .ref (b 0), .ref (d 0), .int k0, .int k1]))], bC cI a m2, bC cI b s0, bC cI d s1, bH cI cR ah m3 m4 b5, wX4 cC t0 t1 ch len cur verb fi se, wX7 cI mo0 mo1 mo2 mo3 mo4 q_p q_sv q_asd q_tx q_states q_len q_at_ q_letter q_one q_two q_number]) E (c_X6_restore l D cI cC cR h0 h1 t0 t1 a b d ah c s0 s1 k0 k1 g nx sz ch len cur verb fi se sc1 hb_k0 hb_k1 hnx hb_g b1 m2 m3 m4 b5 hx5) vl_L_61 yv_X6_restore ⟨Nat.le_of_ble_eq_true rfl, Nat.le_of_ble_eq_true rfl⟩ ⟨rfl, rfl⟩ hnz 0 0 rfl rfl rfl [0, 1, 2, 3, 4, 5, 6] rfl rfl rfl rfl (Nat.le_of_ble_eq_true rfl) dL_law_487 (wa_c rfl (wa_c rfl (wa_c bC_same (wa_c rfl (wa_c rfl (wa_c bH_same (wa_c rfl rfl))))))) rfl ?_
  refine kw_aload_n X dL_law_490 rfl 2 rfl ?_
  refine kw_aload_n X dL_law_491 rfl 0 rfl ?_
  refine kw_iload_n X dL_law_492 rfl 3 rfl ?_
  refine kw_iconst X dL_law_493 ci_1 ?_
  refine kw_iadd X dL_law_494 ?_
  refine kl_sld (v := sc1) X S (ld_at (k := 1) (by decide) (by omega) hL).1 (by rw [(ld_at (k := 1) (by decide) (by omega) hL).2]; exact hs1) dL_law_495 ?_
  obtain ⟨b6, m7, m8, b9, hx9, hF⟩ := ob4_ex hF
  refine kb_aei X (r := .int b6) (As := [.int sc1]) (st := [.int b1]) (bs' := [[(h0, .inr (6, [.ref h1, .ref (ah 0), .ref t0]))], [(h1, .inr (3, [.ref (a 0), .ref (b 0), .ref (d 0), .int k0, .int k1]))], bC cI a m2, bC cI b s0, bC cI d s1, bH cI cR ah m3 m4 b5, wX4 cC t0 t1 ch len cur verb fi se, wX7 cI mo0 mo1 mo2 mo3 mo4 m7 m8 q_asd q_tx b9 q_len q_at_ q_letter q_one q_two q_number]) E (c_X7_restore l D cI cC cR mo0 mo1 mo2 mo3 mo4 q_p q_sv q_asd q_tx q_states q_len q_at_ q_letter q_one q_two q_number sc1 Z b6 m7 m8 b9 hx9) vl_L_64 yv_X7_restore ⟨Nat.le_of_ble_eq_true rfl, Nat.le_of_ble_eq_true rfl⟩ ⟨rfl, rfl⟩ hnz 7 0 rfl rfl rfl rfl rfl (Nat.le_of_ble_eq_true rfl) dL_law_496 [mo0, mo1, mo2, mo3, mo4] rfl rfl rfl ?_
  refine kw_icmp_eq X 843 dL_law_499 (by decide) (fun q10 => ?_) (fun q10 => ?_)
  · replace hF := (if_pos q10).symm.trans hF
    obtain ⟨rfl, rfl, rfl, rfl, rfl, rfl, rfl⟩ := si7 hF
    exact kk
  · replace hF := (if_neg q10).symm.trans hF
    refine kw_iconst X dL_law_502 ci_0 ?_
    exact none_some hF
-- L_case12
def f_L_12 (Z : Nat) (c : CV) (s0 : CV) (s1 : CV) (k0 : Int32) (k1 : Int32) (g : Nat → SV) (nx : Nat) (sz : Int32) (q_p : Nat → Int32) (q_sv : Nat → Int32) (q_states : Int32) : Option (CV × CV × CV × Int32 × Int32 × Nat × Int32 × (Nat → Int32) × Int32) :=
  (pl8 (f_X6_undo c s0 s1 k0 k1 g nx sz) (fun (b1 : Int32) (m2 : CV) (m3 : CV) (m4 : CV) (b5 : Int32) (b6 : Int32) (m7 : Nat) (b8 : Int32) => (ob3 (f_X7_undo Z q_p q_sv q_states) (fun (b9 : Int32) (m10 : Nat → Int32) (b11 : Int32) => (if b1 = b9 then (some (m2, m3, m4, b5, b6, m7, b8, m10, b11)) else none)))))
set_option maxHeartbeats 4000000 in
set_option maxRecDepth 100000 in
theorem c_L_12 {Γ : KG} {w0 : Cond} (l : Launch) (D : va_G) (cI cC cR : ClassId) (sb L : Nat) (xs : Nat → Int32) (X : KX Γ l room_1 D (TY cI cC cR) code 4 "RibbedLoansLaw" w0) (E : KE Γ) (S : KL Γ sb L xs) {n z : Nat} (hnz : n ≤ room_1.cells ∧ z ≤ room_1.slots) (h0 h1 t0 t1 : Nat) (a b d ah : Nat → Nat) (mo0 mo1 mo2 mo3 mo4 : Nat) (c : CV) (s0 : CV) (s1 : CV) (k0 : Int32) (k1 : Int32) (g : Nat → SV) (nx : Nat) (sz : Int32) (ch : Nat → Int32) (len : Int32) (cur : Int32) (verb : Int32) (fi : Int32) (se : Int32) (q_p : Nat → Int32) (q_sv : Nat → Int32) (q_asd : Nat → Int32) (q_tx : Nat → Int32) (q_states : Int32) (q_len : Int32) (q_at_ : Int32) (q_letter : Int32) (q_one : Int32) (q_two : Int32) (q_number : Int32) (j : Nat) (hj : j + 3 < L) (hL : L ≤ 2048) (hb_k0 : k0 = 0 ∨ k0 = 1) (hb_k1 : k1 = 0 ∨ k1 = 1) (hnx : nx < 5) (hb_g : ∀ i, ((g i).2.2.2.1 = 0 ∨ (g i).2.2.2.1 = 1) ∧ ((g i).2.2.2.2 = 0 ∨ (g i).2.2.2.2 = 1)) (Z : Nat) (sc1 sc2 sc3 : Int32) (hs1 : xs (j + 1) = sc1) (hs2 : xs (j + 2) = sc2) (hs3 : xs (j + 3) = sc3) (c' : CV) (s0' : CV) (s1' : CV) (k0' : Int32) (k1' : Int32) (nx' : Nat) (sz' : Int32) (q_p' : Nat → Int32) (q_states' : Int32) (hF : f_L_12 Z c s0 s1 k0 k1 g nx sz q_p q_sv q_states = some (c', s0', s1', k0', k1', nx', sz', q_p', q_states')) (kk : KW Γ n z (wj [[(h0, .inr (6, [.ref h1, .ref (ah 0), .ref t0]))], [(h1, .inr (3, [.ref (a 0), .ref (b 0), .ref (d 0), .int k0', .int k1']))], bC cI a c', bC cI b s0', bC cI d s1', bH cI cR ah g nx' sz', wX4 cC t0 t1 ch len cur verb fi se, wX7 cI mo0 mo1 mo2 mo3 mo4 q_p' q_sv q_asd q_tx q_states' q_len q_at_ q_letter q_one q_two q_number]) [(0, .ref sb), (1, .ref h0), (2, .ref mo0), (3, .int (nI j))] 843 []) : KW Γ n z (wj [[(h0, .inr (6, [.ref h1, .ref (ah 0), .ref t0]))], [(h1, .inr (3, [.ref (a 0), .ref (b 0), .ref (d 0), .int k0, .int k1]))], bC cI a c, bC cI b s0, bC cI d s1, bH cI cR ah g nx sz, wX4 cC t0 t1 ch len cur verb fi se, wX7 cI mo0 mo1 mo2 mo3 mo4 q_p q_sv q_asd q_tx q_states q_len q_at_ q_letter q_one q_two q_number]) [(0, .ref sb), (1, .ref h0), (2, .ref mo0), (3, .int (nI j))] 504 [] := by
  unfold f_L_12 at hF
  refine kw_aload_n X dL_law_504 rfl 1 rfl ?_
  obtain ⟨b1, m2, m3, m4, b5, b6, m7, b8, hx8, hF⟩ := pl8_ex hF
  refine kb_mei X (r := .int b1) (As := []) (st := []) (bs' := [[(h0, .inr (6, [.ref h1, .ref (ah 0), .ref t0]))], [(h1, .inr (3, [.ref (a 0), .ref (b 0), .ref (d 0), .int b5, .int b6]))], bC cI a m2, bC cI b m3, bC cI d m4, bH cI cR ah g m7 b8, wX4 cC t0 t1 ch len cur verb fi se, wX7 cI mo0 mo1 mo2 mo3 mo4 q_p q_sv q_asd q_tx q_states q_len q_at_ q_letter q_one q_two q_number]) E (c_X6_undo l D cI cC cR h0 h1 t0 t1 a b d ah c s0 s1 k0 k1 g nx sz ch len cur verb fi se hb_k0 hb_k1 hnx hb_g b1 m2 m3 m4 b5 b6 m7 b8 hx8) vl_L_65 yv_X6_undo ⟨Nat.le_of_ble_eq_true rfl, Nat.le_of_ble_eq_true rfl⟩ ⟨rfl, rfl⟩ hnz 0 0 rfl rfl rfl [0, 1, 2, 3, 4, 5, 6] rfl rfl rfl rfl (Nat.le_of_ble_eq_true rfl) dL_law_505 (wa_c rfl (wa_c c1_same (wa_c bC_same (wa_c bC_same (wa_c bC_same (wa_c bH_same (wa_c rfl rfl))))))) rfl ?_
  refine kw_aload_n X dL_law_508 rfl 2 rfl ?_
  obtain ⟨b9, m10, b11, hx11, hF⟩ := ob3_ex hF
  refine kb_aei X (r := .int b9) (As := []) (st := [.int b1]) (bs' := [[(h0, .inr (6, [.ref h1, .ref (ah 0), .ref t0]))], [(h1, .inr (3, [.ref (a 0), .ref (b 0), .ref (d 0), .int b5, .int b6]))], bC cI a m2, bC cI b m3, bC cI d m4, bH cI cR ah g m7 b8, wX4 cC t0 t1 ch len cur verb fi se, wX7 cI mo0 mo1 mo2 mo3 mo4 m10 q_sv q_asd q_tx b11 q_len q_at_ q_letter q_one q_two q_number]) E (c_X7_undo l D cI cC cR mo0 mo1 mo2 mo3 mo4 q_p q_sv q_asd q_tx q_states q_len q_at_ q_letter q_one q_two q_number Z b9 m10 b11 hx11) vl_L_68 yv_X7_undo ⟨Nat.le_of_ble_eq_true rfl, Nat.le_of_ble_eq_true rfl⟩ ⟨rfl, rfl⟩ hnz 7 0 rfl rfl rfl rfl rfl (Nat.le_of_ble_eq_true rfl) dL_law_509 [mo0, mo1, mo2, mo3, mo4] rfl rfl rfl ?_
  refine kw_icmp_eq X 843 dL_law_512 (by decide) (fun q12 => ?_) (fun q12 => ?_)
  · replace hF := (if_pos q12).symm.trans hF
    obtain ⟨rfl, rfl, rfl, rfl, rfl, rfl, rfl, rfl, rfl⟩ := si9 hF
    exact kk
  · replace hF := (if_neg q12).symm.trans hF
    refine kw_iconst X dL_law_515 ci_0 ?_
    exact none_some hF
-- L_case13
def f_L_13 (ch : Nat → Int32) (len : Int32) (q_tx : Nat → Int32) (q_len : Int32) (sc1 : Int32) : Option ((Nat → Int32) × Int32 × (Nat → Int32) × Int32) :=
  (pl3 (f_X6_append ch len sc1) (fun (b1 : Int32) (m2 : Nat → Int32) (b3 : Int32) => (ob3 (f_X7_append q_tx q_len sc1) (fun (b4 : Int32) (m5 : Nat → Int32) (b6 : Int32) => (if b1 = b4 then (some (m2, b3, m5, b6)) else none)))))
set_option maxHeartbeats 4000000 in
set_option maxRecDepth 100000 in
theorem c_L_13 {Γ : KG} {w0 : Cond} (l : Launch) (D : va_G) (cI cC cR : ClassId) (sb L : Nat) (xs : Nat → Int32) (X : KX Γ l room_1 D (TY cI cC cR) code 4 "RibbedLoansLaw" w0) (E : KE Γ) (S : KL Γ sb L xs) {n z : Nat} (hnz : n ≤ room_1.cells ∧ z ≤ room_1.slots) (h0 h1 t0 t1 : Nat) (a b d ah : Nat → Nat) (mo0 mo1 mo2 mo3 mo4 : Nat) (c : CV) (s0 : CV) (s1 : CV) (k0 : Int32) (k1 : Int32) (g : Nat → SV) (nx : Nat) (sz : Int32) (ch : Nat → Int32) (len : Int32) (cur : Int32) (verb : Int32) (fi : Int32) (se : Int32) (q_p : Nat → Int32) (q_sv : Nat → Int32) (q_asd : Nat → Int32) (q_tx : Nat → Int32) (q_states : Int32) (q_len : Int32) (q_at_ : Int32) (q_letter : Int32) (q_one : Int32) (q_two : Int32) (q_number : Int32) (j : Nat) (hj : j + 3 < L) (hL : L ≤ 2048) (hb_k0 : k0 = 0 ∨ k0 = 1) (hb_k1 : k1 = 0 ∨ k1 = 1) (hnx : nx < 5) (hb_g : ∀ i, ((g i).2.2.2.1 = 0 ∨ (g i).2.2.2.1 = 1) ∧ ((g i).2.2.2.2 = 0 ∨ (g i).2.2.2.2 = 1)) (Z : Nat) (sc1 sc2 sc3 : Int32) (hs1 : xs (j + 1) = sc1) (hs2 : xs (j + 2) = sc2) (hs3 : xs (j + 3) = sc3) (ch' : Nat → Int32) (len' : Int32) (q_tx' : Nat → Int32) (q_len' : Int32) (hF : f_L_13 ch len q_tx q_len sc1 = some (ch', len', q_tx', q_len')) (kk : KW Γ n z (wj [[(h0, .inr (6, [.ref h1, .ref (ah 0), .ref t0]))], [(h1, .inr (3, [.ref (a 0), .ref (b 0), .ref (d 0), .int k0, .int k1]))], bC cI a c, bC cI b s0, bC cI d s1, bH cI cR ah g nx sz, wX4 cC t0 t1 ch' len' cur verb fi se, wX7 cI mo0 mo1 mo2 mo3 mo4 q_p q_sv q_asd q_tx' q_states q_len' q_at_ q_letter q_one q_two q_number]) [(0, .ref sb), (1, .ref h0), (2, .ref mo0), (3, .int (nI j))] 843 []) : KW Γ n z (wj [[(h0, .inr (6, [.ref h1, .ref (ah 0), .ref t0]))], [(h1, .inr (3, [.ref (a 0), .ref (b 0), .ref (d 0), .int k0, .int k1]))], bC cI a c, bC cI b s0, bC cI d s1, bH cI cR ah g nx sz, wX4 cC t0 t1 ch len cur verb fi se, wX7 cI mo0 mo1 mo2 mo3 mo4 q_p q_sv q_asd q_tx q_states q_len q_at_ q_letter q_one q_two q_number]) [(0, .ref sb), (1, .ref h0), (2, .ref mo0), (3, .int (nI j))] 517 [] := by
  unfold f_L_13 at hF
  refine kw_aload_n X dL_law_517 rfl 1 rfl ?_
  refine kw_aload_n X dL_law_518 rfl 0 rfl ?_
  refine kw_iload_n X dL_law_519 rfl 3 rfl ?_
  refine kw_iconst X dL_law_520 ci_1 ?_
  refine kw_iadd X dL_law_521 ?_
  refine kl_sld (v := sc1) X S (ld_at (k := 1) (by decide) (by omega) hL).1 (by rw [(ld_at (k := 1) (by decide) (by omega) hL).2]; exact hs1) dL_law_522 ?_
  obtain ⟨b1, m2, b3, hx3, hF⟩ := pl3_ex hF
  refine kb_mei X (r := .int b1) (As := [.int sc1]) (st := []) (bs' := [[(h0, .inr (6, [.ref h1, .ref (ah 0), .ref t0]))], [(h1, .inr (3, [.ref (a 0), .ref (b 0), .ref (d 0), .int k0, .int k1]))], bC cI a c, bC cI b s0, bC cI d s1, bH cI cR ah g nx sz, wX4 cC t0 t1 m2 b3 cur verb fi se, wX7 cI mo0 mo1 mo2 mo3 mo4 q_p q_sv q_asd q_tx q_states q_len q_at_ q_letter q_one q_two q_number]) E (c_X6_append l D cI cC cR h0 h1 t0 t1 a b d ah c s0 s1 k0 k1 g nx sz ch len cur verb fi se sc1 hb_k0 hb_k1 hnx hb_g b1 m2 b3 hx3) vl_L_69 yv_X6_append ⟨Nat.le_of_ble_eq_true rfl, Nat.le_of_ble_eq_true rfl⟩ ⟨rfl, rfl⟩ hnz 0 0 rfl rfl rfl [0, 1, 2, 3, 4, 5, 6] rfl rfl rfl rfl (Nat.le_of_ble_eq_true rfl) dL_law_523 (wa_c rfl (wa_c rfl (wa_c rfl (wa_c rfl (wa_c rfl (wa_c rfl (wa_c w4_same rfl))))))) rfl ?_
  refine kw_aload_n X dL_law_526 rfl 2 rfl ?_
  refine kw_aload_n X dL_law_527 rfl 0 rfl ?_
  refine kw_iload_n X dL_law_528 rfl 3 rfl ?_
  refine kw_iconst X dL_law_529 ci_1 ?_
  refine kw_iadd X dL_law_530 ?_
  refine kl_sld (v := sc1) X S (ld_at (k := 1) (by decide) (by omega) hL).1 (by rw [(ld_at (k := 1) (by decide) (by omega) hL).2]; exact hs1) dL_law_531 ?_
  obtain ⟨b4, m5, b6, hx6, hF⟩ := ob3_ex hF
  refine kb_aei X (r := .int b4) (As := [.int sc1]) (st := [.int b1]) (bs' := [[(h0, .inr (6, [.ref h1, .ref (ah 0), .ref t0]))], [(h1, .inr (3, [.ref (a 0), .ref (b 0), .ref (d 0), .int k0, .int k1]))], bC cI a c, bC cI b s0, bC cI d s1, bH cI cR ah g nx sz, wX4 cC t0 t1 m2 b3 cur verb fi se, wX7 cI mo0 mo1 mo2 mo3 mo4 q_p q_sv q_asd m5 q_states b6 q_at_ q_letter q_one q_two q_number]) E (c_X7_append l D cI cC cR mo0 mo1 mo2 mo3 mo4 q_p q_sv q_asd q_tx q_states q_len q_at_ q_letter q_one q_two q_number sc1 b4 m5 b6 hx6) vl_L_72 yv_X7_append ⟨Nat.le_of_ble_eq_true rfl, Nat.le_of_ble_eq_true rfl⟩ ⟨rfl, rfl⟩ hnz 7 0 rfl rfl rfl rfl rfl (Nat.le_of_ble_eq_true rfl) dL_law_532 [mo0, mo1, mo2, mo3, mo4] rfl rfl rfl ?_
  refine kw_icmp_eq X 843 dL_law_535 (by decide) (fun q7 => ?_) (fun q7 => ?_)
  · replace hF := (if_pos q7).symm.trans hF
    obtain ⟨rfl, rfl, rfl, rfl⟩ := si4 hF
    exact kk
  · replace hF := (if_neg q7).symm.trans hF
    refine kw_iconst X dL_law_538 ci_0 ?_
    exact none_some hF
-- L_case14
def f_L_14 (len : Int32) (q_len : Int32) : Option (Int32 × Int32) :=
  (pl2 (f_X6_clearText len) (fun (b1 : Int32) (b2 : Int32) => (pl2 (f_X7_clearText q_len) (fun (b3 : Int32) (b4 : Int32) => (if b1 = b3 then (some (b2, b4)) else none)))))
set_option maxHeartbeats 4000000 in
set_option maxRecDepth 100000 in
theorem c_L_14 {Γ : KG} {w0 : Cond} (l : Launch) (D : va_G) (cI cC cR : ClassId) (sb L : Nat) (xs : Nat → Int32) (X : KX Γ l room_1 D (TY cI cC cR) code 4 "RibbedLoansLaw" w0) (E : KE Γ) (S : KL Γ sb L xs) {n z : Nat} (hnz : n ≤ room_1.cells ∧ z ≤ room_1.slots) (h0 h1 t0 t1 : Nat) (a b d ah : Nat → Nat) (mo0 mo1 mo2 mo3 mo4 : Nat) (c : CV) (s0 : CV) (s1 : CV) (k0 : Int32) (k1 : Int32) (g : Nat → SV) (nx : Nat) (sz : Int32) (ch : Nat → Int32) (len : Int32) (cur : Int32) (verb : Int32) (fi : Int32) (se : Int32) (q_p : Nat → Int32) (q_sv : Nat → Int32) (q_asd : Nat → Int32) (q_tx : Nat → Int32) (q_states : Int32) (q_len : Int32) (q_at_ : Int32) (q_letter : Int32) (q_one : Int32) (q_two : Int32) (q_number : Int32) (j : Nat) (hj : j + 3 < L) (hL : L ≤ 2048) (hb_k0 : k0 = 0 ∨ k0 = 1) (hb_k1 : k1 = 0 ∨ k1 = 1) (hnx : nx < 5) (hb_g : ∀ i, ((g i).2.2.2.1 = 0 ∨ (g i).2.2.2.1 = 1) ∧ ((g i).2.2.2.2 = 0 ∨ (g i).2.2.2.2 = 1)) (Z : Nat) (sc1 sc2 sc3 : Int32) (hs1 : xs (j + 1) = sc1) (hs2 : xs (j + 2) = sc2) (hs3 : xs (j + 3) = sc3) (len' : Int32) (q_len' : Int32) (hF : f_L_14 len q_len = some (len', q_len')) (kk : KW Γ n z (wj [[(h0, .inr (6, [.ref h1, .ref (ah 0), .ref t0]))], [(h1, .inr (3, [.ref (a 0), .ref (b 0), .ref (d 0), .int k0, .int k1]))], bC cI a c, bC cI b s0, bC cI d s1, bH cI cR ah g nx sz, wX4 cC t0 t1 ch len' cur verb fi se, wX7 cI mo0 mo1 mo2 mo3 mo4 q_p q_sv q_asd q_tx q_states q_len' q_at_ q_letter q_one q_two q_number]) [(0, .ref sb), (1, .ref h0), (2, .ref mo0), (3, .int (nI j))] 843 []) : KW Γ n z (wj [[(h0, .inr (6, [.ref h1, .ref (ah 0), .ref t0]))], [(h1, .inr (3, [.ref (a 0), .ref (b 0), .ref (d 0), .int k0, .int k1]))], bC cI a c, bC cI b s0, bC cI d s1, bH cI cR ah g nx sz, wX4 cC t0 t1 ch len cur verb fi se, wX7 cI mo0 mo1 mo2 mo3 mo4 q_p q_sv q_asd q_tx q_states q_len q_at_ q_letter q_one q_two q_number]) [(0, .ref sb), (1, .ref h0), (2, .ref mo0), (3, .int (nI j))] 540 [] := by
  unfold f_L_14 at hF
  refine kw_aload_n X dL_law_540 rfl 1 rfl ?_
  obtain ⟨b1, b2, hx2, hF⟩ := pl2_ex hF
  refine kb_mei X (r := .int b1) (As := []) (st := []) (bs' := [[(h0, .inr (6, [.ref h1, .ref (ah 0), .ref t0]))], [(h1, .inr (3, [.ref (a 0), .ref (b 0), .ref (d 0), .int k0, .int k1]))], bC cI a c, bC cI b s0, bC cI d s1, bH cI cR ah g nx sz, wX4 cC t0 t1 ch b2 cur verb fi se, wX7 cI mo0 mo1 mo2 mo3 mo4 q_p q_sv q_asd q_tx q_states q_len q_at_ q_letter q_one q_two q_number]) E (c_X6_clearText l D cI cC cR h0 h1 t0 t1 a b d ah c s0 s1 k0 k1 g nx sz ch len cur verb fi se hb_k0 hb_k1 hnx hb_g b1 b2 hx2) vl_L_73 yv_X6_clearText ⟨Nat.le_of_ble_eq_true rfl, Nat.le_of_ble_eq_true rfl⟩ ⟨rfl, rfl⟩ hnz 0 0 rfl rfl rfl [0, 1, 2, 3, 4, 5, 6] rfl rfl rfl rfl (Nat.le_of_ble_eq_true rfl) dL_law_541 (wa_c rfl (wa_c rfl (wa_c rfl (wa_c rfl (wa_c rfl (wa_c rfl (wa_c w4_same rfl))))))) rfl ?_
  refine kw_aload_n X dL_law_544 rfl 2 rfl ?_
  obtain ⟨b3, b4, hx4, hF⟩ := pl2_ex hF
  refine kb_aei X (r := .int b3) (As := []) (st := [.int b1]) (bs' := [[(h0, .inr (6, [.ref h1, .ref (ah 0), .ref t0]))], [(h1, .inr (3, [.ref (a 0), .ref (b 0), .ref (d 0), .int k0, .int k1]))], bC cI a c, bC cI b s0, bC cI d s1, bH cI cR ah g nx sz, wX4 cC t0 t1 ch b2 cur verb fi se, wX7 cI mo0 mo1 mo2 mo3 mo4 q_p q_sv q_asd q_tx q_states b4 q_at_ q_letter q_one q_two q_number]) E (c_X7_clearText l D cI cC cR mo0 mo1 mo2 mo3 mo4 q_p q_sv q_asd q_tx q_states q_len q_at_ q_letter q_one q_two q_number b3 b4 hx4) vl_L_76 yv_X7_clearText ⟨Nat.le_of_ble_eq_true rfl, Nat.le_of_ble_eq_true rfl⟩ ⟨rfl, rfl⟩ hnz 7 0 rfl rfl rfl rfl rfl (Nat.le_of_ble_eq_true rfl) dL_law_545 [mo0, mo1, mo2, mo3, mo4] rfl rfl rfl ?_
  refine kw_icmp_eq X 843 dL_law_548 (by decide) (fun q5 => ?_) (fun q5 => ?_)
  · replace hF := (if_pos q5).symm.trans hF
    obtain ⟨rfl, rfl⟩ := si2 hF
    exact kk
  · replace hF := (if_neg q5).symm.trans hF
    refine kw_iconst X dL_law_551 ci_0 ?_
    exact none_some hF
-- L_case15
def f_L_15 (Z : Nat) (c : CV) (s0 : CV) (s1 : CV) (k0 : Int32) (k1 : Int32) (g : Nat → SV) (nx : Nat) (sz : Int32) (ch : Nat → Int32) (len : Int32) (verb : Int32) (fi : Int32) (se : Int32) (q_p : Nat → Int32) (q_sv : Nat → Int32) (q_tx : Nat → Int32) (q_states : Int32) (q_len : Int32) (q_one : Int32) (q_two : Int32) (q_number : Int32) : Option (CV × (Nat → SV) × Nat × Int32 × Int32 × Int32 × Int32 × Int32 × Int32 × (Nat → Int32) × (Nat → Int32) × Int32 × Int32 × Int32 × Int32 × Int32 × Int32 × Int32) :=
  (ob10 (f_X6_carryOut Z c s0 s1 k0 k1 g nx sz ch len verb fi se) (fun (b1 : Int32) (m2 : CV) (m3 : Nat → SV) (m4 : Nat) (b5 : Int32) (b6 : Int32) (b7 : Int32) (b8 : Int32) (b9 : Int32) (b10 : Int32) => (ob10 (f_X7_carryOut Z q_p q_sv q_tx q_states q_len q_one q_two q_number) (fun (b11 : Int32) (m12 : Nat → Int32) (m13 : Nat → Int32) (b14 : Int32) (b15 : Int32) (b16 : Int32) (b17 : Int32) (b18 : Int32) (b19 : Int32) (b20 : Int32) => (if b1 = b11 then (some (m2, m3, m4, b5, b6, b7, b8, b9, b10, m12, m13, b14, b15, b16, b17, b18, b19, b20)) else none)))))
set_option maxHeartbeats 4000000 in
set_option maxRecDepth 100000 in
theorem c_L_15 {Γ : KG} {w0 : Cond} (l : Launch) (D : va_G) (cI cC cR : ClassId) (sb L : Nat) (xs : Nat → Int32) (X : KX Γ l room_1 D (TY cI cC cR) code 4 "RibbedLoansLaw" w0) (E : KE Γ) (S : KL Γ sb L xs) {n z : Nat} (hnz : n ≤ room_1.cells ∧ z ≤ room_1.slots) (h0 h1 t0 t1 : Nat) (a b d ah : Nat → Nat) (mo0 mo1 mo2 mo3 mo4 : Nat) (c : CV) (s0 : CV) (s1 : CV) (k0 : Int32) (k1 : Int32) (g : Nat → SV) (nx : Nat) (sz : Int32) (ch : Nat → Int32) (len : Int32) (cur : Int32) (verb : Int32) (fi : Int32) (se : Int32) (q_p : Nat → Int32) (q_sv : Nat → Int32) (q_asd : Nat → Int32) (q_tx : Nat → Int32) (q_states : Int32) (q_len : Int32) (q_at_ : Int32) (q_letter : Int32) (q_one : Int32) (q_two : Int32) (q_number : Int32) (j : Nat) (hj : j + 3 < L) (hL : L ≤ 2048) (hb_k0 : k0 = 0 ∨ k0 = 1) (hb_k1 : k1 = 0 ∨ k1 = 1) (hnx : nx < 5) (hb_g : ∀ i, ((g i).2.2.2.1 = 0 ∨ (g i).2.2.2.1 = 1) ∧ ((g i).2.2.2.2 = 0 ∨ (g i).2.2.2.2 = 1)) (Z : Nat) (sc1 sc2 sc3 : Int32) (hs1 : xs (j + 1) = sc1) (hs2 : xs (j + 2) = sc2) (hs3 : xs (j + 3) = sc3) (c' : CV) (g' : Nat → SV) (nx' : Nat) (sz' : Int32) (len' : Int32) (cur' : Int32) (verb' : Int32) (fi' : Int32) (se' : Int32) (q_p' : Nat → Int32) (q_sv' : Nat → Int32) (q_states' : Int32) (q_len' : Int32) (q_at_' : Int32) (q_letter' : Int32) (q_one' : Int32) (q_two' : Int32) (q_number' : Int32) (hF : f_L_15 Z c s0 s1 k0 k1 g nx sz ch len verb fi se q_p q_sv q_tx q_states q_len q_one q_two q_number = some (c', g', nx', sz', len', cur', verb', fi', se', q_p', q_sv', q_states', q_len', q_at_', q_letter', q_one', q_two', q_number')) (kk : KW Γ n z (wj [[(h0, .inr (6, [.ref h1, .ref (ah 0), .ref t0]))], [(h1, .inr (3, [.ref (a 0), .ref (b 0), .ref (d 0), .int k0, .int k1]))], bC cI a c', bC cI b s0, bC cI d s1, bH cI cR ah g' nx' sz', wX4 cC t0 t1 ch len' cur' verb' fi' se', wX7 cI mo0 mo1 mo2 mo3 mo4 q_p' q_sv' q_asd q_tx q_states' q_len' q_at_' q_letter' q_one' q_two' q_number']) [(0, .ref sb), (1, .ref h0), (2, .ref mo0), (3, .int (nI j))] 843 []) : KW Γ n z (wj [[(h0, .inr (6, [.ref h1, .ref (ah 0), .ref t0]))], [(h1, .inr (3, [.ref (a 0), .ref (b 0), .ref (d 0), .int k0, .int k1]))], bC cI a c, bC cI b s0, bC cI d s1, bH cI cR ah g nx sz, wX4 cC t0 t1 ch len cur verb fi se, wX7 cI mo0 mo1 mo2 mo3 mo4 q_p q_sv q_asd q_tx q_states q_len q_at_ q_letter q_one q_two q_number]) [(0, .ref sb), (1, .ref h0), (2, .ref mo0), (3, .int (nI j))] 553 [] := by
  unfold f_L_15 at hF
  refine kw_aload_n X dL_law_553 rfl 1 rfl ?_
  obtain ⟨b1, m2, m3, m4, b5, b6, b7, b8, b9, b10, hx10, hF⟩ := ob10_ex hF
  refine kb_mei X (r := .int b1) (As := []) (st := []) (bs' := [[(h0, .inr (6, [.ref h1, .ref (ah 0), .ref t0]))], [(h1, .inr (3, [.ref (a 0), .ref (b 0), .ref (d 0), .int k0, .int k1]))], bC cI a m2, bC cI b s0, bC cI d s1, bH cI cR ah m3 m4 b5, wX4 cC t0 t1 ch b6 b7 b8 b9 b10, wX7 cI mo0 mo1 mo2 mo3 mo4 q_p q_sv q_asd q_tx q_states q_len q_at_ q_letter q_one q_two q_number]) E (c_X6_carryOut l D cI cC cR h0 h1 t0 t1 a b d ah c s0 s1 k0 k1 g nx sz ch len cur verb fi se hb_k0 hb_k1 hnx hb_g Z b1 m2 m3 m4 b5 b6 b7 b8 b9 b10 hx10) vl_L_77 yv_X6_carryOut ⟨Nat.le_of_ble_eq_true rfl, Nat.le_of_ble_eq_true rfl⟩ ⟨rfl, rfl⟩ hnz 0 0 rfl rfl rfl [0, 1, 2, 3, 4, 5, 6] rfl rfl rfl rfl (Nat.le_of_ble_eq_true rfl) dL_law_554 (wa_c rfl (wa_c rfl (wa_c bC_same (wa_c rfl (wa_c rfl (wa_c bH_same (wa_c w4_same rfl))))))) rfl ?_
  refine kw_aload_n X dL_law_557 rfl 2 rfl ?_
  obtain ⟨b11, m12, m13, b14, b15, b16, b17, b18, b19, b20, hx20, hF⟩ := ob10_ex hF
  refine kb_aei X (r := .int b11) (As := []) (st := [.int b1]) (bs' := [[(h0, .inr (6, [.ref h1, .ref (ah 0), .ref t0]))], [(h1, .inr (3, [.ref (a 0), .ref (b 0), .ref (d 0), .int k0, .int k1]))], bC cI a m2, bC cI b s0, bC cI d s1, bH cI cR ah m3 m4 b5, wX4 cC t0 t1 ch b6 b7 b8 b9 b10, wX7 cI mo0 mo1 mo2 mo3 mo4 m12 m13 q_asd q_tx b14 b15 b16 b17 b18 b19 b20]) E (c_X7_carryOut l D cI cC cR mo0 mo1 mo2 mo3 mo4 q_p q_sv q_asd q_tx q_states q_len q_at_ q_letter q_one q_two q_number Z b11 m12 m13 b14 b15 b16 b17 b18 b19 b20 hx20) vl_L_80 yv_X7_carryOut ⟨Nat.le_of_ble_eq_true rfl, Nat.le_of_ble_eq_true rfl⟩ ⟨rfl, rfl⟩ hnz 7 0 rfl rfl rfl rfl rfl (Nat.le_of_ble_eq_true rfl) dL_law_558 [mo0, mo1, mo2, mo3, mo4] rfl rfl rfl ?_
  refine kw_icmp_eq X 843 dL_law_561 (by decide) (fun q21 => ?_) (fun q21 => ?_)
  · replace hF := (if_pos q21).symm.trans hF
    obtain ⟨rfl, rfl, rfl, rfl, rfl, rfl, rfl, rfl, rfl, rfl, rfl, rfl, rfl, rfl, rfl, rfl, rfl, rfl⟩ := si18 hF
    exact kk
  · replace hF := (if_neg q21).symm.trans hF
    refine kw_iconst X dL_law_564 ci_0 ?_
    exact none_some hF
-- L_case16
def f_L_16 (Z : Nat) (c : CV) (k0 : Int32) (k1 : Int32) (sz : Int32) (len : Int32) (q_p : Nat → Int32) (q_states : Int32) (q_len : Int32) (sc1 : Int32) : Option (Unit) :=
  (ob1 (f_X6_count Z c k0 k1 sz len sc1) (fun (b1 : Int32) => (ob1 (f_X7_count Z q_p q_states q_len sc1) (fun (b2 : Int32) => (if b1 = b2 then (some ()) else none)))))
set_option maxHeartbeats 4000000 in
set_option maxRecDepth 100000 in
theorem c_L_16 {Γ : KG} {w0 : Cond} (l : Launch) (D : va_G) (cI cC cR : ClassId) (sb L : Nat) (xs : Nat → Int32) (X : KX Γ l room_1 D (TY cI cC cR) code 4 "RibbedLoansLaw" w0) (E : KE Γ) (S : KL Γ sb L xs) {n z : Nat} (hnz : n ≤ room_1.cells ∧ z ≤ room_1.slots) (h0 h1 t0 t1 : Nat) (a b d ah : Nat → Nat) (mo0 mo1 mo2 mo3 mo4 : Nat) (c : CV) (s0 : CV) (s1 : CV) (k0 : Int32) (k1 : Int32) (g : Nat → SV) (nx : Nat) (sz : Int32) (ch : Nat → Int32) (len : Int32) (cur : Int32) (verb : Int32) (fi : Int32) (se : Int32) (q_p : Nat → Int32) (q_sv : Nat → Int32) (q_asd : Nat → Int32) (q_tx : Nat → Int32) (q_states : Int32) (q_len : Int32) (q_at_ : Int32) (q_letter : Int32) (q_one : Int32) (q_two : Int32) (q_number : Int32) (j : Nat) (hj : j + 3 < L) (hL : L ≤ 2048) (hb_k0 : k0 = 0 ∨ k0 = 1) (hb_k1 : k1 = 0 ∨ k1 = 1) (hnx : nx < 5) (hb_g : ∀ i, ((g i).2.2.2.1 = 0 ∨ (g i).2.2.2.1 = 1) ∧ ((g i).2.2.2.2 = 0 ∨ (g i).2.2.2.2 = 1)) (Z : Nat) (sc1 sc2 sc3 : Int32) (hs1 : xs (j + 1) = sc1) (hs2 : xs (j + 2) = sc2) (hs3 : xs (j + 3) = sc3) (hF : f_L_16 Z c k0 k1 sz len q_p q_states q_len sc1 = some ()) (kk : KW Γ n z (wj [[(h0, .inr (6, [.ref h1, .ref (ah 0), .ref t0]))], [(h1, .inr (3, [.ref (a 0), .ref (b 0), .ref (d 0), .int k0, .int k1]))], bC cI a c, bC cI b s0, bC cI d s1, bH cI cR ah g nx sz, wX4 cC t0 t1 ch len cur verb fi se, wX7 cI mo0 mo1 mo2 mo3 mo4 q_p q_sv q_asd q_tx q_states q_len q_at_ q_letter q_one q_two q_number]) [(0, .ref sb), (1, .ref h0), (2, .ref mo0), (3, .int (nI j))] 843 []) : KW Γ n z (wj [[(h0, .inr (6, [.ref h1, .ref (ah 0), .ref t0]))], [(h1, .inr (3, [.ref (a 0), .ref (b 0), .ref (d 0), .int k0, .int k1]))], bC cI a c, bC cI b s0, bC cI d s1, bH cI cR ah g nx sz, wX4 cC t0 t1 ch len cur verb fi se, wX7 cI mo0 mo1 mo2 mo3 mo4 q_p q_sv q_asd q_tx q_states q_len q_at_ q_letter q_one q_two q_number]) [(0, .ref sb), (1, .ref h0), (2, .ref mo0), (3, .int (nI j))] 566 [] := by
  unfold f_L_16 at hF
  refine kw_aload_n X dL_law_566 rfl 1 rfl ?_
  refine kw_aload_n X dL_law_567 rfl 0 rfl ?_
  refine kw_iload_n X dL_law_568 rfl 3 rfl ?_
  refine kw_iconst X dL_law_569 ci_1 ?_
  refine kw_iadd X dL_law_570 ?_
  refine kl_sld (v := sc1) X S (ld_at (k := 1) (by decide) (by omega) hL).1 (by rw [(ld_at (k := 1) (by decide) (by omega) hL).2]; exact hs1) dL_law_571 ?_
  obtain ⟨b1, hx1, hF⟩ := ob1_ex hF
  refine kb_mp X (r := .int b1) (As := [.int sc1]) (st := []) (c_X6_count l D cI cC cR h0 h1 t0 t1 a b d ah c s0 s1 k0 k1 g nx sz ch len cur verb fi se sc1 hb_k0 hb_k1 hnx hb_g Z b1 hx1) vl_L_81 yv_X6_count ⟨Nat.le_of_ble_eq_true rfl, Nat.le_of_ble_eq_true rfl⟩ ⟨rfl, rfl⟩ hnz 0 0 rfl rfl rfl [0, 1, 2, 3, 4, 5, 6] rfl rfl rfl rfl (Nat.le_of_ble_eq_true rfl) dL_law_572 ?_
  refine kw_aload_n X dL_law_575 rfl 2 rfl ?_
  refine kw_aload_n X dL_law_576 rfl 0 rfl ?_
  refine kw_iload_n X dL_law_577 rfl 3 rfl ?_
  refine kw_iconst X dL_law_578 ci_1 ?_
  refine kw_iadd X dL_law_579 ?_
  refine kl_sld (v := sc1) X S (ld_at (k := 1) (by decide) (by omega) hL).1 (by rw [(ld_at (k := 1) (by decide) (by omega) hL).2]; exact hs1) dL_law_580 ?_
  obtain ⟨b2, hx2, hF⟩ := ob1_ex hF
  refine kb_ap X (r := .int b2) (As := [.int sc1]) (st := [.int b1]) (c_X7_count l D cI cC cR mo0 mo1 mo2 mo3 mo4 q_p q_sv q_asd q_tx q_states q_len q_at_ q_letter q_one q_two q_number sc1 Z b2 hx2) vl_L_84 yv_X7_count ⟨Nat.le_of_ble_eq_true rfl, Nat.le_of_ble_eq_true rfl⟩ ⟨rfl, rfl⟩ hnz 7 0 rfl rfl rfl rfl rfl (Nat.le_of_ble_eq_true rfl) dL_law_581 ?_
  refine kw_icmp_eq X 843 dL_law_584 (by decide) (fun q3 => ?_) (fun q3 => ?_)
  · replace hF := (if_pos q3).symm.trans hF
    exact kk
  · replace hF := (if_neg q3).symm.trans hF
    refine kw_iconst X dL_law_587 ci_0 ?_
    exact none_some hF
-- L_case17
def f_L_17 (c : CV) (q_p : Nat → Int32) (sc1 : Int32) (sc2 : Int32) : Option (Unit) :=
  (ob1 (f_X7_umbrella q_p sc1 sc2) (fun (b1 : Int32) => (if (f_X6_umbrella c sc1 sc2) = b1 then (some ()) else none)))
set_option maxHeartbeats 4000000 in
set_option maxRecDepth 100000 in
theorem c_L_17 {Γ : KG} {w0 : Cond} (l : Launch) (D : va_G) (cI cC cR : ClassId) (sb L : Nat) (xs : Nat → Int32) (X : KX Γ l room_1 D (TY cI cC cR) code 4 "RibbedLoansLaw" w0) (E : KE Γ) (S : KL Γ sb L xs) {n z : Nat} (hnz : n ≤ room_1.cells ∧ z ≤ room_1.slots) (h0 h1 t0 t1 : Nat) (a b d ah : Nat → Nat) (mo0 mo1 mo2 mo3 mo4 : Nat) (c : CV) (s0 : CV) (s1 : CV) (k0 : Int32) (k1 : Int32) (g : Nat → SV) (nx : Nat) (sz : Int32) (ch : Nat → Int32) (len : Int32) (cur : Int32) (verb : Int32) (fi : Int32) (se : Int32) (q_p : Nat → Int32) (q_sv : Nat → Int32) (q_asd : Nat → Int32) (q_tx : Nat → Int32) (q_states : Int32) (q_len : Int32) (q_at_ : Int32) (q_letter : Int32) (q_one : Int32) (q_two : Int32) (q_number : Int32) (j : Nat) (hj : j + 3 < L) (hL : L ≤ 2048) (hb_k0 : k0 = 0 ∨ k0 = 1) (hb_k1 : k1 = 0 ∨ k1 = 1) (hnx : nx < 5) (hb_g : ∀ i, ((g i).2.2.2.1 = 0 ∨ (g i).2.2.2.1 = 1) ∧ ((g i).2.2.2.2 = 0 ∨ (g i).2.2.2.2 = 1)) (Z : Nat) (sc1 sc2 sc3 : Int32) (hs1 : xs (j + 1) = sc1) (hs2 : xs (j + 2) = sc2) (hs3 : xs (j + 3) = sc3) (hF : f_L_17 c q_p sc1 sc2 = some ()) (kk : KW Γ n z (wj [[(h0, .inr (6, [.ref h1, .ref (ah 0), .ref t0]))], [(h1, .inr (3, [.ref (a 0), .ref (b 0), .ref (d 0), .int k0, .int k1]))], bC cI a c, bC cI b s0, bC cI d s1, bH cI cR ah g nx sz, wX4 cC t0 t1 ch len cur verb fi se, wX7 cI mo0 mo1 mo2 mo3 mo4 q_p q_sv q_asd q_tx q_states q_len q_at_ q_letter q_one q_two q_number]) [(0, .ref sb), (1, .ref h0), (2, .ref mo0), (3, .int (nI j))] 843 []) : KW Γ n z (wj [[(h0, .inr (6, [.ref h1, .ref (ah 0), .ref t0]))], [(h1, .inr (3, [.ref (a 0), .ref (b 0), .ref (d 0), .int k0, .int k1]))], bC cI a c, bC cI b s0, bC cI d s1, bH cI cR ah g nx sz, wX4 cC t0 t1 ch len cur verb fi se, wX7 cI mo0 mo1 mo2 mo3 mo4 q_p q_sv q_asd q_tx q_states q_len q_at_ q_letter q_one q_two q_number]) [(0, .ref sb), (1, .ref h0), (2, .ref mo0), (3, .int (nI j))] 589 [] := by
  unfold f_L_17 at hF
  refine kw_aload_n X dL_law_589 rfl 1 rfl ?_
  refine kw_aload_n X dL_law_590 rfl 0 rfl ?_
  refine kw_iload_n X dL_law_591 rfl 3 rfl ?_
  refine kw_iconst X dL_law_592 ci_1 ?_
  refine kw_iadd X dL_law_593 ?_
  refine kl_sld (v := sc1) X S (ld_at (k := 1) (by decide) (by omega) hL).1 (by rw [(ld_at (k := 1) (by decide) (by omega) hL).2]; exact hs1) dL_law_594 ?_
  refine kw_aload_n X dL_law_595 rfl 0 rfl ?_
  refine kw_iload_n X dL_law_596 rfl 3 rfl ?_
  refine kw_iconst X dL_law_597 ci_2 ?_
  refine kw_iadd X dL_law_598 ?_
  refine kl_sld (v := sc2) X S (ld_at (k := 2) (by decide) (by omega) hL).1 (by rw [(ld_at (k := 2) (by decide) (by omega) hL).2]; exact hs2) dL_law_599 ?_
  refine kb_mp X (r := .int (f_X6_umbrella c sc1 sc2)) (As := [.int sc1, .int sc2]) (st := []) (c_X6_umbrella l D cI cC cR h0 h1 t0 t1 a b d ah c s0 s1 k0 k1 g nx sz ch len cur verb fi se sc1 sc2 hb_k0 hb_k1 hnx hb_g (f_X6_umbrella c sc1 sc2) rfl) vl_L_85 yv_X6_umbrella ⟨Nat.le_of_ble_eq_true rfl, Nat.le_of_ble_eq_true rfl⟩ ⟨rfl, rfl⟩ hnz 0 0 rfl rfl rfl [0, 1, 2, 3, 4, 5, 6] rfl rfl rfl rfl (Nat.le_of_ble_eq_true rfl) dL_law_600 ?_
  refine kw_aload_n X dL_law_603 rfl 2 rfl ?_
  refine kw_aload_n X dL_law_604 rfl 0 rfl ?_
  refine kw_iload_n X dL_law_605 rfl 3 rfl ?_
  refine kw_iconst X dL_law_606 ci_1 ?_
  refine kw_iadd X dL_law_607 ?_
  refine kl_sld (v := sc1) X S (ld_at (k := 1) (by decide) (by omega) hL).1 (by rw [(ld_at (k := 1) (by decide) (by omega) hL).2]; exact hs1) dL_law_608 ?_
  refine kw_aload_n X dL_law_609 rfl 0 rfl ?_
  refine kw_iload_n X dL_law_610 rfl 3 rfl ?_
  refine kw_iconst X dL_law_611 ci_2 ?_
  refine kw_iadd X dL_law_612 ?_
  refine kl_sld (v := sc2) X S (ld_at (k := 2) (by decide) (by omega) hL).1 (by rw [(ld_at (k := 2) (by decide) (by omega) hL).2]; exact hs2) dL_law_613 ?_
  obtain ⟨b1, hx1, hF⟩ := ob1_ex hF
  refine kb_ap X (r := .int b1) (As := [.int sc1, .int sc2]) (st := [.int (f_X6_umbrella c sc1 sc2)]) (c_X7_umbrella l D cI cC cR mo0 mo1 mo2 mo3 mo4 q_p q_sv q_asd q_tx q_states q_len q_at_ q_letter q_one q_two q_number sc1 sc2 b1 hx1) vl_L_88 yv_X7_umbrella ⟨Nat.le_of_ble_eq_true rfl, Nat.le_of_ble_eq_true rfl⟩ ⟨rfl, rfl⟩ hnz 7 0 rfl rfl rfl rfl rfl (Nat.le_of_ble_eq_true rfl) dL_law_614 ?_
  refine kw_icmp_eq X 843 dL_law_617 (by decide) (fun q2 => ?_) (fun q2 => ?_)
  · replace hF := (if_pos q2).symm.trans hF
    exact kk
  · replace hF := (if_neg q2).symm.trans hF
    refine kw_iconst X dL_law_620 ci_0 ?_
    exact none_some hF
-- L_case18
def f_L_18 (Z : Nat) (c : CV) (q_p : Nat → Int32) (sc1 : Int32) (sc2 : Int32) : Option (Unit) :=
  (ob1 (f_X6_stand Z c sc1 sc2) (fun (b1 : Int32) => (ob1 (f_X7_stand Z q_p sc1 sc2) (fun (b2 : Int32) => (if b1 = b2 then (some ()) else none)))))
set_option maxHeartbeats 4000000 in
set_option maxRecDepth 100000 in
theorem c_L_18 {Γ : KG} {w0 : Cond} (l : Launch) (D : va_G) (cI cC cR : ClassId) (sb L : Nat) (xs : Nat → Int32) (X : KX Γ l room_1 D (TY cI cC cR) code 4 "RibbedLoansLaw" w0) (E : KE Γ) (S : KL Γ sb L xs) {n z : Nat} (hnz : n ≤ room_1.cells ∧ z ≤ room_1.slots) (h0 h1 t0 t1 : Nat) (a b d ah : Nat → Nat) (mo0 mo1 mo2 mo3 mo4 : Nat) (c : CV) (s0 : CV) (s1 : CV) (k0 : Int32) (k1 : Int32) (g : Nat → SV) (nx : Nat) (sz : Int32) (ch : Nat → Int32) (len : Int32) (cur : Int32) (verb : Int32) (fi : Int32) (se : Int32) (q_p : Nat → Int32) (q_sv : Nat → Int32) (q_asd : Nat → Int32) (q_tx : Nat → Int32) (q_states : Int32) (q_len : Int32) (q_at_ : Int32) (q_letter : Int32) (q_one : Int32) (q_two : Int32) (q_number : Int32) (j : Nat) (hj : j + 3 < L) (hL : L ≤ 2048) (hb_k0 : k0 = 0 ∨ k0 = 1) (hb_k1 : k1 = 0 ∨ k1 = 1) (hnx : nx < 5) (hb_g : ∀ i, ((g i).2.2.2.1 = 0 ∨ (g i).2.2.2.1 = 1) ∧ ((g i).2.2.2.2 = 0 ∨ (g i).2.2.2.2 = 1)) (Z : Nat) (sc1 sc2 sc3 : Int32) (hs1 : xs (j + 1) = sc1) (hs2 : xs (j + 2) = sc2) (hs3 : xs (j + 3) = sc3) (hF : f_L_18 Z c q_p sc1 sc2 = some ()) (kk : KW Γ n z (wj [[(h0, .inr (6, [.ref h1, .ref (ah 0), .ref t0]))], [(h1, .inr (3, [.ref (a 0), .ref (b 0), .ref (d 0), .int k0, .int k1]))], bC cI a c, bC cI b s0, bC cI d s1, bH cI cR ah g nx sz, wX4 cC t0 t1 ch len cur verb fi se, wX7 cI mo0 mo1 mo2 mo3 mo4 q_p q_sv q_asd q_tx q_states q_len q_at_ q_letter q_one q_two q_number]) [(0, .ref sb), (1, .ref h0), (2, .ref mo0), (3, .int (nI j))] 843 []) : KW Γ n z (wj [[(h0, .inr (6, [.ref h1, .ref (ah 0), .ref t0]))], [(h1, .inr (3, [.ref (a 0), .ref (b 0), .ref (d 0), .int k0, .int k1]))], bC cI a c, bC cI b s0, bC cI d s1, bH cI cR ah g nx sz, wX4 cC t0 t1 ch len cur verb fi se, wX7 cI mo0 mo1 mo2 mo3 mo4 q_p q_sv q_asd q_tx q_states q_len q_at_ q_letter q_one q_two q_number]) [(0, .ref sb), (1, .ref h0), (2, .ref mo0), (3, .int (nI j))] 622 [] := by
  unfold f_L_18 at hF
  refine kw_aload_n X dL_law_622 rfl 1 rfl ?_
  refine kw_aload_n X dL_law_623 rfl 0 rfl ?_
  refine kw_iload_n X dL_law_624 rfl 3 rfl ?_
  refine kw_iconst X dL_law_625 ci_1 ?_
  refine kw_iadd X dL_law_626 ?_
  refine kl_sld (v := sc1) X S (ld_at (k := 1) (by decide) (by omega) hL).1 (by rw [(ld_at (k := 1) (by decide) (by omega) hL).2]; exact hs1) dL_law_627 ?_
  refine kw_aload_n X dL_law_628 rfl 0 rfl ?_
  refine kw_iload_n X dL_law_629 rfl 3 rfl ?_
  refine kw_iconst X dL_law_630 ci_2 ?_
  refine kw_iadd X dL_law_631 ?_
  refine kl_sld (v := sc2) X S (ld_at (k := 2) (by decide) (by omega) hL).1 (by rw [(ld_at (k := 2) (by decide) (by omega) hL).2]; exact hs2) dL_law_632 ?_
  obtain ⟨b1, hx1, hF⟩ := ob1_ex hF
  refine kb_mp X (r := .int b1) (As := [.int sc1, .int sc2]) (st := []) (c_X6_stand l D cI cC cR h0 h1 t0 t1 a b d ah c s0 s1 k0 k1 g nx sz ch len cur verb fi se sc1 sc2 hb_k0 hb_k1 hnx hb_g Z b1 hx1) vl_L_89 yv_X6_stand ⟨Nat.le_of_ble_eq_true rfl, Nat.le_of_ble_eq_true rfl⟩ ⟨rfl, rfl⟩ hnz 0 0 rfl rfl rfl [0, 1, 2, 3, 4, 5, 6] rfl rfl rfl rfl (Nat.le_of_ble_eq_true rfl) dL_law_633 ?_
  refine kw_aload_n X dL_law_636 rfl 2 rfl ?_
  refine kw_aload_n X dL_law_637 rfl 0 rfl ?_
  refine kw_iload_n X dL_law_638 rfl 3 rfl ?_
  refine kw_iconst X dL_law_639 ci_1 ?_
  refine kw_iadd X dL_law_640 ?_
  refine kl_sld (v := sc1) X S (ld_at (k := 1) (by decide) (by omega) hL).1 (by rw [(ld_at (k := 1) (by decide) (by omega) hL).2]; exact hs1) dL_law_641 ?_
  refine kw_aload_n X dL_law_642 rfl 0 rfl ?_
  refine kw_iload_n X dL_law_643 rfl 3 rfl ?_
  refine kw_iconst X dL_law_644 ci_2 ?_
  refine kw_iadd X dL_law_645 ?_
  refine kl_sld (v := sc2) X S (ld_at (k := 2) (by decide) (by omega) hL).1 (by rw [(ld_at (k := 2) (by decide) (by omega) hL).2]; exact hs2) dL_law_646 ?_
  obtain ⟨b2, hx2, hF⟩ := ob1_ex hF
  refine kb_ap X (r := .int b2) (As := [.int sc1, .int sc2]) (st := [.int b1]) (c_X7_stand l D cI cC cR mo0 mo1 mo2 mo3 mo4 q_p q_sv q_asd q_tx q_states q_len q_at_ q_letter q_one q_two q_number sc1 sc2 Z b2 hx2) vl_L_92 yv_X7_stand ⟨Nat.le_of_ble_eq_true rfl, Nat.le_of_ble_eq_true rfl⟩ ⟨rfl, rfl⟩ hnz 7 0 rfl rfl rfl rfl rfl (Nat.le_of_ble_eq_true rfl) dL_law_647 ?_
  refine kw_icmp_eq X 843 dL_law_650 (by decide) (fun q3 => ?_) (fun q3 => ?_)
  · replace hF := (if_pos q3).symm.trans hF
    exact kk
  · replace hF := (if_neg q3).symm.trans hF
    refine kw_iconst X dL_law_653 ci_0 ?_
    exact none_some hF
-- L_case19
def f_L_19 (Z : Nat) (c : CV) (q_p : Nat → Int32) (sc1 : Int32) (sc2 : Int32) : Option (Unit) :=
  (ob1 (f_X6_person Z c sc1 sc2) (fun (b1 : Int32) => (ob1 (f_X7_person q_p sc1 sc2) (fun (b2 : Int32) => (if b1 = b2 then (some ()) else none)))))
set_option maxHeartbeats 4000000 in
set_option maxRecDepth 100000 in
theorem c_L_19 {Γ : KG} {w0 : Cond} (l : Launch) (D : va_G) (cI cC cR : ClassId) (sb L : Nat) (xs : Nat → Int32) (X : KX Γ l room_1 D (TY cI cC cR) code 4 "RibbedLoansLaw" w0) (E : KE Γ) (S : KL Γ sb L xs) {n z : Nat} (hnz : n ≤ room_1.cells ∧ z ≤ room_1.slots) (h0 h1 t0 t1 : Nat) (a b d ah : Nat → Nat) (mo0 mo1 mo2 mo3 mo4 : Nat) (c : CV) (s0 : CV) (s1 : CV) (k0 : Int32) (k1 : Int32) (g : Nat → SV) (nx : Nat) (sz : Int32) (ch : Nat → Int32) (len : Int32) (cur : Int32) (verb : Int32) (fi : Int32) (se : Int32) (q_p : Nat → Int32) (q_sv : Nat → Int32) (q_asd : Nat → Int32) (q_tx : Nat → Int32) (q_states : Int32) (q_len : Int32) (q_at_ : Int32) (q_letter : Int32) (q_one : Int32) (q_two : Int32) (q_number : Int32) (j : Nat) (hj : j + 3 < L) (hL : L ≤ 2048) (hb_k0 : k0 = 0 ∨ k0 = 1) (hb_k1 : k1 = 0 ∨ k1 = 1) (hnx : nx < 5) (hb_g : ∀ i, ((g i).2.2.2.1 = 0 ∨ (g i).2.2.2.1 = 1) ∧ ((g i).2.2.2.2 = 0 ∨ (g i).2.2.2.2 = 1)) (Z : Nat) (sc1 sc2 sc3 : Int32) (hs1 : xs (j + 1) = sc1) (hs2 : xs (j + 2) = sc2) (hs3 : xs (j + 3) = sc3) (hF : f_L_19 Z c q_p sc1 sc2 = some ()) (kk : KW Γ n z (wj [[(h0, .inr (6, [.ref h1, .ref (ah 0), .ref t0]))], [(h1, .inr (3, [.ref (a 0), .ref (b 0), .ref (d 0), .int k0, .int k1]))], bC cI a c, bC cI b s0, bC cI d s1, bH cI cR ah g nx sz, wX4 cC t0 t1 ch len cur verb fi se, wX7 cI mo0 mo1 mo2 mo3 mo4 q_p q_sv q_asd q_tx q_states q_len q_at_ q_letter q_one q_two q_number]) [(0, .ref sb), (1, .ref h0), (2, .ref mo0), (3, .int (nI j))] 843 []) : KW Γ n z (wj [[(h0, .inr (6, [.ref h1, .ref (ah 0), .ref t0]))], [(h1, .inr (3, [.ref (a 0), .ref (b 0), .ref (d 0), .int k0, .int k1]))], bC cI a c, bC cI b s0, bC cI d s1, bH cI cR ah g nx sz, wX4 cC t0 t1 ch len cur verb fi se, wX7 cI mo0 mo1 mo2 mo3 mo4 q_p q_sv q_asd q_tx q_states q_len q_at_ q_letter q_one q_two q_number]) [(0, .ref sb), (1, .ref h0), (2, .ref mo0), (3, .int (nI j))] 655 [] := by
  unfold f_L_19 at hF
  refine kw_aload_n X dL_law_655 rfl 1 rfl ?_
  refine kw_aload_n X dL_law_656 rfl 0 rfl ?_
  refine kw_iload_n X dL_law_657 rfl 3 rfl ?_
  refine kw_iconst X dL_law_658 ci_1 ?_
  refine kw_iadd X dL_law_659 ?_
  refine kl_sld (v := sc1) X S (ld_at (k := 1) (by decide) (by omega) hL).1 (by rw [(ld_at (k := 1) (by decide) (by omega) hL).2]; exact hs1) dL_law_660 ?_
  refine kw_aload_n X dL_law_661 rfl 0 rfl ?_
  refine kw_iload_n X dL_law_662 rfl 3 rfl ?_
  refine kw_iconst X dL_law_663 ci_2 ?_
  refine kw_iadd X dL_law_664 ?_
  refine kl_sld (v := sc2) X S (ld_at (k := 2) (by decide) (by omega) hL).1 (by rw [(ld_at (k := 2) (by decide) (by omega) hL).2]; exact hs2) dL_law_665 ?_
  obtain ⟨b1, hx1, hF⟩ := ob1_ex hF
  refine kb_mp X (r := .int b1) (As := [.int sc1, .int sc2]) (st := []) (c_X6_person l D cI cC cR h0 h1 t0 t1 a b d ah c s0 s1 k0 k1 g nx sz ch len cur verb fi se sc1 sc2 hb_k0 hb_k1 hnx hb_g Z b1 hx1) vl_L_93 yv_X6_person ⟨Nat.le_of_ble_eq_true rfl, Nat.le_of_ble_eq_true rfl⟩ ⟨rfl, rfl⟩ hnz 0 0 rfl rfl rfl [0, 1, 2, 3, 4, 5, 6] rfl rfl rfl rfl (Nat.le_of_ble_eq_true rfl) dL_law_666 ?_
  refine kw_aload_n X dL_law_669 rfl 2 rfl ?_
  refine kw_aload_n X dL_law_670 rfl 0 rfl ?_
  refine kw_iload_n X dL_law_671 rfl 3 rfl ?_
  refine kw_iconst X dL_law_672 ci_1 ?_
  refine kw_iadd X dL_law_673 ?_
  refine kl_sld (v := sc1) X S (ld_at (k := 1) (by decide) (by omega) hL).1 (by rw [(ld_at (k := 1) (by decide) (by omega) hL).2]; exact hs1) dL_law_674 ?_
  refine kw_aload_n X dL_law_675 rfl 0 rfl ?_
  refine kw_iload_n X dL_law_676 rfl 3 rfl ?_
  refine kw_iconst X dL_law_677 ci_2 ?_
  refine kw_iadd X dL_law_678 ?_
  refine kl_sld (v := sc2) X S (ld_at (k := 2) (by decide) (by omega) hL).1 (by rw [(ld_at (k := 2) (by decide) (by omega) hL).2]; exact hs2) dL_law_679 ?_
  obtain ⟨b2, hx2, hF⟩ := ob1_ex hF
  refine kb_ap X (r := .int b2) (As := [.int sc1, .int sc2]) (st := [.int b1]) (c_X7_person l D cI cC cR mo0 mo1 mo2 mo3 mo4 q_p q_sv q_asd q_tx q_states q_len q_at_ q_letter q_one q_two q_number sc1 sc2 b2 hx2) vl_L_96 yv_X7_person ⟨Nat.le_of_ble_eq_true rfl, Nat.le_of_ble_eq_true rfl⟩ ⟨rfl, rfl⟩ hnz 7 0 rfl rfl rfl rfl rfl (Nat.le_of_ble_eq_true rfl) dL_law_680 ?_
  refine kw_icmp_eq X 843 dL_law_683 (by decide) (fun q3 => ?_) (fun q3 => ?_)
  · replace hF := (if_pos q3).symm.trans hF
    exact kk
  · replace hF := (if_neg q3).symm.trans hF
    refine kw_iconst X dL_law_686 ci_0 ?_
    exact none_some hF
-- L_case20
def f_L_20 (Z : Nat) (c : CV) (q_p : Nat → Int32) (sc1 : Int32) (sc2 : Int32) : Option (Unit) :=
  (ob1 (f_X6_inVan Z c sc1 sc2) (fun (b1 : Int32) => (ob1 (f_X7_inVan Z q_p sc1 sc2) (fun (b2 : Int32) => (if b1 = b2 then (some ()) else none)))))
set_option maxHeartbeats 4000000 in
set_option maxRecDepth 100000 in
theorem c_L_20 {Γ : KG} {w0 : Cond} (l : Launch) (D : va_G) (cI cC cR : ClassId) (sb L : Nat) (xs : Nat → Int32) (X : KX Γ l room_1 D (TY cI cC cR) code 4 "RibbedLoansLaw" w0) (E : KE Γ) (S : KL Γ sb L xs) {n z : Nat} (hnz : n ≤ room_1.cells ∧ z ≤ room_1.slots) (h0 h1 t0 t1 : Nat) (a b d ah : Nat → Nat) (mo0 mo1 mo2 mo3 mo4 : Nat) (c : CV) (s0 : CV) (s1 : CV) (k0 : Int32) (k1 : Int32) (g : Nat → SV) (nx : Nat) (sz : Int32) (ch : Nat → Int32) (len : Int32) (cur : Int32) (verb : Int32) (fi : Int32) (se : Int32) (q_p : Nat → Int32) (q_sv : Nat → Int32) (q_asd : Nat → Int32) (q_tx : Nat → Int32) (q_states : Int32) (q_len : Int32) (q_at_ : Int32) (q_letter : Int32) (q_one : Int32) (q_two : Int32) (q_number : Int32) (j : Nat) (hj : j + 3 < L) (hL : L ≤ 2048) (hb_k0 : k0 = 0 ∨ k0 = 1) (hb_k1 : k1 = 0 ∨ k1 = 1) (hnx : nx < 5) (hb_g : ∀ i, ((g i).2.2.2.1 = 0 ∨ (g i).2.2.2.1 = 1) ∧ ((g i).2.2.2.2 = 0 ∨ (g i).2.2.2.2 = 1)) (Z : Nat) (sc1 sc2 sc3 : Int32) (hs1 : xs (j + 1) = sc1) (hs2 : xs (j + 2) = sc2) (hs3 : xs (j + 3) = sc3) (hF : f_L_20 Z c q_p sc1 sc2 = some ()) (kk : KW Γ n z (wj [[(h0, .inr (6, [.ref h1, .ref (ah 0), .ref t0]))], [(h1, .inr (3, [.ref (a 0), .ref (b 0), .ref (d 0), .int k0, .int k1]))], bC cI a c, bC cI b s0, bC cI d s1, bH cI cR ah g nx sz, wX4 cC t0 t1 ch len cur verb fi se, wX7 cI mo0 mo1 mo2 mo3 mo4 q_p q_sv q_asd q_tx q_states q_len q_at_ q_letter q_one q_two q_number]) [(0, .ref sb), (1, .ref h0), (2, .ref mo0), (3, .int (nI j))] 843 []) : KW Γ n z (wj [[(h0, .inr (6, [.ref h1, .ref (ah 0), .ref t0]))], [(h1, .inr (3, [.ref (a 0), .ref (b 0), .ref (d 0), .int k0, .int k1]))], bC cI a c, bC cI b s0, bC cI d s1, bH cI cR ah g nx sz, wX4 cC t0 t1 ch len cur verb fi se, wX7 cI mo0 mo1 mo2 mo3 mo4 q_p q_sv q_asd q_tx q_states q_len q_at_ q_letter q_one q_two q_number]) [(0, .ref sb), (1, .ref h0), (2, .ref mo0), (3, .int (nI j))] 688 [] := by
  unfold f_L_20 at hF
  refine kw_aload_n X dL_law_688 rfl 1 rfl ?_
  refine kw_aload_n X dL_law_689 rfl 0 rfl ?_
  refine kw_iload_n X dL_law_690 rfl 3 rfl ?_
  refine kw_iconst X dL_law_691 ci_1 ?_
  refine kw_iadd X dL_law_692 ?_
  refine kl_sld (v := sc1) X S (ld_at (k := 1) (by decide) (by omega) hL).1 (by rw [(ld_at (k := 1) (by decide) (by omega) hL).2]; exact hs1) dL_law_693 ?_
  refine kw_aload_n X dL_law_694 rfl 0 rfl ?_
  refine kw_iload_n X dL_law_695 rfl 3 rfl ?_
  refine kw_iconst X dL_law_696 ci_2 ?_
  refine kw_iadd X dL_law_697 ?_
  refine kl_sld (v := sc2) X S (ld_at (k := 2) (by decide) (by omega) hL).1 (by rw [(ld_at (k := 2) (by decide) (by omega) hL).2]; exact hs2) dL_law_698 ?_
  obtain ⟨b1, hx1, hF⟩ := ob1_ex hF
  refine kb_mp X (r := .int b1) (As := [.int sc1, .int sc2]) (st := []) (c_X6_inVan l D cI cC cR h0 h1 t0 t1 a b d ah c s0 s1 k0 k1 g nx sz ch len cur verb fi se sc1 sc2 hb_k0 hb_k1 hnx hb_g Z b1 hx1) vl_L_97 yv_X6_inVan ⟨Nat.le_of_ble_eq_true rfl, Nat.le_of_ble_eq_true rfl⟩ ⟨rfl, rfl⟩ hnz 0 0 rfl rfl rfl [0, 1, 2, 3, 4, 5, 6] rfl rfl rfl rfl (Nat.le_of_ble_eq_true rfl) dL_law_699 ?_
  refine kw_aload_n X dL_law_702 rfl 2 rfl ?_
  refine kw_aload_n X dL_law_703 rfl 0 rfl ?_
  refine kw_iload_n X dL_law_704 rfl 3 rfl ?_
  refine kw_iconst X dL_law_705 ci_1 ?_
  refine kw_iadd X dL_law_706 ?_
  refine kl_sld (v := sc1) X S (ld_at (k := 1) (by decide) (by omega) hL).1 (by rw [(ld_at (k := 1) (by decide) (by omega) hL).2]; exact hs1) dL_law_707 ?_
  refine kw_aload_n X dL_law_708 rfl 0 rfl ?_
  refine kw_iload_n X dL_law_709 rfl 3 rfl ?_
  refine kw_iconst X dL_law_710 ci_2 ?_
  refine kw_iadd X dL_law_711 ?_
  refine kl_sld (v := sc2) X S (ld_at (k := 2) (by decide) (by omega) hL).1 (by rw [(ld_at (k := 2) (by decide) (by omega) hL).2]; exact hs2) dL_law_712 ?_
  obtain ⟨b2, hx2, hF⟩ := ob1_ex hF
  refine kb_ap X (r := .int b2) (As := [.int sc1, .int sc2]) (st := [.int b1]) (c_X7_inVan l D cI cC cR mo0 mo1 mo2 mo3 mo4 q_p q_sv q_asd q_tx q_states q_len q_at_ q_letter q_one q_two q_number sc1 sc2 Z b2 hx2) vl_L_100 yv_X7_inVan ⟨Nat.le_of_ble_eq_true rfl, Nat.le_of_ble_eq_true rfl⟩ ⟨rfl, rfl⟩ hnz 7 0 rfl rfl rfl rfl rfl (Nat.le_of_ble_eq_true rfl) dL_law_713 ?_
  refine kw_icmp_eq X 843 dL_law_716 (by decide) (fun q3 => ?_) (fun q3 => ?_)
  · replace hF := (if_pos q3).symm.trans hF
    exact kk
  · replace hF := (if_neg q3).symm.trans hF
    refine kw_iconst X dL_law_719 ci_0 ?_
    exact none_some hF
-- L_case21
def f_L_21 (Z : Nat) (c : CV) (q_p : Nat → Int32) (sc1 : Int32) (sc2 : Int32) (sc3 : Int32) : Option (Unit) :=
  (ob1 (f_X6_feeIn Z c sc1 sc2 sc3) (fun (b1 : Int32) => (ob1 (f_X7_feeIn Z q_p sc1 sc2 sc3) (fun (b2 : Int32) => (if b1 = b2 then (some ()) else none)))))
set_option maxHeartbeats 4000000 in
set_option maxRecDepth 100000 in
theorem c_L_21 {Γ : KG} {w0 : Cond} (l : Launch) (D : va_G) (cI cC cR : ClassId) (sb L : Nat) (xs : Nat → Int32) (X : KX Γ l room_1 D (TY cI cC cR) code 4 "RibbedLoansLaw" w0) (E : KE Γ) (S : KL Γ sb L xs) {n z : Nat} (hnz : n ≤ room_1.cells ∧ z ≤ room_1.slots) (h0 h1 t0 t1 : Nat) (a b d ah : Nat → Nat) (mo0 mo1 mo2 mo3 mo4 : Nat) (c : CV) (s0 : CV) (s1 : CV) (k0 : Int32) (k1 : Int32) (g : Nat → SV) (nx : Nat) (sz : Int32) (ch : Nat → Int32) (len : Int32) (cur : Int32) (verb : Int32) (fi : Int32) (se : Int32) (q_p : Nat → Int32) (q_sv : Nat → Int32) (q_asd : Nat → Int32) (q_tx : Nat → Int32) (q_states : Int32) (q_len : Int32) (q_at_ : Int32) (q_letter : Int32) (q_one : Int32) (q_two : Int32) (q_number : Int32) (j : Nat) (hj : j + 3 < L) (hL : L ≤ 2048) (hb_k0 : k0 = 0 ∨ k0 = 1) (hb_k1 : k1 = 0 ∨ k1 = 1) (hnx : nx < 5) (hb_g : ∀ i, ((g i).2.2.2.1 = 0 ∨ (g i).2.2.2.1 = 1) ∧ ((g i).2.2.2.2 = 0 ∨ (g i).2.2.2.2 = 1)) (Z : Nat) (sc1 sc2 sc3 : Int32) (hs1 : xs (j + 1) = sc1) (hs2 : xs (j + 2) = sc2) (hs3 : xs (j + 3) = sc3) (hF : f_L_21 Z c q_p sc1 sc2 sc3 = some ()) (kk : KW Γ n z (wj [[(h0, .inr (6, [.ref h1, .ref (ah 0), .ref t0]))], [(h1, .inr (3, [.ref (a 0), .ref (b 0), .ref (d 0), .int k0, .int k1]))], bC cI a c, bC cI b s0, bC cI d s1, bH cI cR ah g nx sz, wX4 cC t0 t1 ch len cur verb fi se, wX7 cI mo0 mo1 mo2 mo3 mo4 q_p q_sv q_asd q_tx q_states q_len q_at_ q_letter q_one q_two q_number]) [(0, .ref sb), (1, .ref h0), (2, .ref mo0), (3, .int (nI j))] 843 []) : KW Γ n z (wj [[(h0, .inr (6, [.ref h1, .ref (ah 0), .ref t0]))], [(h1, .inr (3, [.ref (a 0), .ref (b 0), .ref (d 0), .int k0, .int k1]))], bC cI a c, bC cI b s0, bC cI d s1, bH cI cR ah g nx sz, wX4 cC t0 t1 ch len cur verb fi se, wX7 cI mo0 mo1 mo2 mo3 mo4 q_p q_sv q_asd q_tx q_states q_len q_at_ q_letter q_one q_two q_number]) [(0, .ref sb), (1, .ref h0), (2, .ref mo0), (3, .int (nI j))] 721 [] := by
  unfold f_L_21 at hF
  refine kw_aload_n X dL_law_721 rfl 1 rfl ?_
  refine kw_aload_n X dL_law_722 rfl 0 rfl ?_
  refine kw_iload_n X dL_law_723 rfl 3 rfl ?_
  refine kw_iconst X dL_law_724 ci_1 ?_
  refine kw_iadd X dL_law_725 ?_
  refine kl_sld (v := sc1) X S (ld_at (k := 1) (by decide) (by omega) hL).1 (by rw [(ld_at (k := 1) (by decide) (by omega) hL).2]; exact hs1) dL_law_726 ?_
  refine kw_aload_n X dL_law_727 rfl 0 rfl ?_
  refine kw_iload_n X dL_law_728 rfl 3 rfl ?_
  refine kw_iconst X dL_law_729 ci_2 ?_
  refine kw_iadd X dL_law_730 ?_
  refine kl_sld (v := sc2) X S (ld_at (k := 2) (by decide) (by omega) hL).1 (by rw [(ld_at (k := 2) (by decide) (by omega) hL).2]; exact hs2) dL_law_731 ?_
  refine kw_aload_n X dL_law_732 rfl 0 rfl ?_
  refine kw_iload_n X dL_law_733 rfl 3 rfl ?_
  refine kw_iconst X dL_law_734 ci_3 ?_
  refine kw_iadd X dL_law_735 ?_
  refine kl_sld (v := sc3) X S (ld_at (k := 3) (by decide) (by omega) hL).1 (by rw [(ld_at (k := 3) (by decide) (by omega) hL).2]; exact hs3) dL_law_736 ?_
  obtain ⟨b1, hx1, hF⟩ := ob1_ex hF
  refine kb_mp X (r := .int b1) (As := [.int sc1, .int sc2, .int sc3]) (st := []) (c_X6_feeIn l D cI cC cR h0 h1 t0 t1 a b d ah c s0 s1 k0 k1 g nx sz ch len cur verb fi se sc1 sc2 sc3 hb_k0 hb_k1 hnx hb_g Z b1 hx1) vl_L_101 yv_X6_feeIn ⟨Nat.le_of_ble_eq_true rfl, Nat.le_of_ble_eq_true rfl⟩ ⟨rfl, rfl⟩ hnz 0 0 rfl rfl rfl [0, 1, 2, 3, 4, 5, 6] rfl rfl rfl rfl (Nat.le_of_ble_eq_true rfl) dL_law_737 ?_
  refine kw_aload_n X dL_law_740 rfl 2 rfl ?_
  refine kw_aload_n X dL_law_741 rfl 0 rfl ?_
  refine kw_iload_n X dL_law_742 rfl 3 rfl ?_
  refine kw_iconst X dL_law_743 ci_1 ?_
  refine kw_iadd X dL_law_744 ?_
  refine kl_sld (v := sc1) X S (ld_at (k := 1) (by decide) (by omega) hL).1 (by rw [(ld_at (k := 1) (by decide) (by omega) hL).2]; exact hs1) dL_law_745 ?_
  refine kw_aload_n X dL_law_746 rfl 0 rfl ?_
  refine kw_iload_n X dL_law_747 rfl 3 rfl ?_
  refine kw_iconst X dL_law_748 ci_2 ?_
  refine kw_iadd X dL_law_749 ?_
  refine kl_sld (v := sc2) X S (ld_at (k := 2) (by decide) (by omega) hL).1 (by rw [(ld_at (k := 2) (by decide) (by omega) hL).2]; exact hs2) dL_law_750 ?_
  refine kw_aload_n X dL_law_751 rfl 0 rfl ?_
  refine kw_iload_n X dL_law_752 rfl 3 rfl ?_
  refine kw_iconst X dL_law_753 ci_3 ?_
  refine kw_iadd X dL_law_754 ?_
  refine kl_sld (v := sc3) X S (ld_at (k := 3) (by decide) (by omega) hL).1 (by rw [(ld_at (k := 3) (by decide) (by omega) hL).2]; exact hs3) dL_law_755 ?_
  obtain ⟨b2, hx2, hF⟩ := ob1_ex hF
  refine kb_ap X (r := .int b2) (As := [.int sc1, .int sc2, .int sc3]) (st := [.int b1]) (c_X7_feeIn l D cI cC cR mo0 mo1 mo2 mo3 mo4 q_p q_sv q_asd q_tx q_states q_len q_at_ q_letter q_one q_two q_number sc1 sc2 sc3 Z b2 hx2) vl_L_104 yv_X7_feeIn ⟨Nat.le_of_ble_eq_true rfl, Nat.le_of_ble_eq_true rfl⟩ ⟨rfl, rfl⟩ hnz 7 0 rfl rfl rfl rfl rfl (Nat.le_of_ble_eq_true rfl) dL_law_756 ?_
  refine kw_icmp_eq X 843 dL_law_759 (by decide) (fun q3 => ?_) (fun q3 => ?_)
  · replace hF := (if_pos q3).symm.trans hF
    exact kk
  · replace hF := (if_neg q3).symm.trans hF
    refine kw_iconst X dL_law_762 ci_0 ?_
    exact none_some hF
-- L_case22
def f_L_22 (Z : Nat) (c : CV) (q_p : Nat → Int32) (sc1 : Int32) (sc2 : Int32) (sc3 : Int32) : Option (Unit) :=
  (ob1 (f_X6_breaksIn Z c sc1 sc2 sc3) (fun (b1 : Int32) => (ob1 (f_X7_breaksIn Z q_p sc1 sc2 sc3) (fun (b2 : Int32) => (if b1 = b2 then (some ()) else none)))))
set_option maxHeartbeats 4000000 in
set_option maxRecDepth 100000 in
theorem c_L_22 {Γ : KG} {w0 : Cond} (l : Launch) (D : va_G) (cI cC cR : ClassId) (sb L : Nat) (xs : Nat → Int32) (X : KX Γ l room_1 D (TY cI cC cR) code 4 "RibbedLoansLaw" w0) (E : KE Γ) (S : KL Γ sb L xs) {n z : Nat} (hnz : n ≤ room_1.cells ∧ z ≤ room_1.slots) (h0 h1 t0 t1 : Nat) (a b d ah : Nat → Nat) (mo0 mo1 mo2 mo3 mo4 : Nat) (c : CV) (s0 : CV) (s1 : CV) (k0 : Int32) (k1 : Int32) (g : Nat → SV) (nx : Nat) (sz : Int32) (ch : Nat → Int32) (len : Int32) (cur : Int32) (verb : Int32) (fi : Int32) (se : Int32) (q_p : Nat → Int32) (q_sv : Nat → Int32) (q_asd : Nat → Int32) (q_tx : Nat → Int32) (q_states : Int32) (q_len : Int32) (q_at_ : Int32) (q_letter : Int32) (q_one : Int32) (q_two : Int32) (q_number : Int32) (j : Nat) (hj : j + 3 < L) (hL : L ≤ 2048) (hb_k0 : k0 = 0 ∨ k0 = 1) (hb_k1 : k1 = 0 ∨ k1 = 1) (hnx : nx < 5) (hb_g : ∀ i, ((g i).2.2.2.1 = 0 ∨ (g i).2.2.2.1 = 1) ∧ ((g i).2.2.2.2 = 0 ∨ (g i).2.2.2.2 = 1)) (Z : Nat) (sc1 sc2 sc3 : Int32) (hs1 : xs (j + 1) = sc1) (hs2 : xs (j + 2) = sc2) (hs3 : xs (j + 3) = sc3) (hF : f_L_22 Z c q_p sc1 sc2 sc3 = some ()) (kk : KW Γ n z (wj [[(h0, .inr (6, [.ref h1, .ref (ah 0), .ref t0]))], [(h1, .inr (3, [.ref (a 0), .ref (b 0), .ref (d 0), .int k0, .int k1]))], bC cI a c, bC cI b s0, bC cI d s1, bH cI cR ah g nx sz, wX4 cC t0 t1 ch len cur verb fi se, wX7 cI mo0 mo1 mo2 mo3 mo4 q_p q_sv q_asd q_tx q_states q_len q_at_ q_letter q_one q_two q_number]) [(0, .ref sb), (1, .ref h0), (2, .ref mo0), (3, .int (nI j))] 843 []) : KW Γ n z (wj [[(h0, .inr (6, [.ref h1, .ref (ah 0), .ref t0]))], [(h1, .inr (3, [.ref (a 0), .ref (b 0), .ref (d 0), .int k0, .int k1]))], bC cI a c, bC cI b s0, bC cI d s1, bH cI cR ah g nx sz, wX4 cC t0 t1 ch len cur verb fi se, wX7 cI mo0 mo1 mo2 mo3 mo4 q_p q_sv q_asd q_tx q_states q_len q_at_ q_letter q_one q_two q_number]) [(0, .ref sb), (1, .ref h0), (2, .ref mo0), (3, .int (nI j))] 764 [] := by
  unfold f_L_22 at hF
  refine kw_aload_n X dL_law_764 rfl 1 rfl ?_
  refine kw_aload_n X dL_law_765 rfl 0 rfl ?_
  refine kw_iload_n X dL_law_766 rfl 3 rfl ?_
  refine kw_iconst X dL_law_767 ci_1 ?_
  refine kw_iadd X dL_law_768 ?_
  refine kl_sld (v := sc1) X S (ld_at (k := 1) (by decide) (by omega) hL).1 (by rw [(ld_at (k := 1) (by decide) (by omega) hL).2]; exact hs1) dL_law_769 ?_
  refine kw_aload_n X dL_law_770 rfl 0 rfl ?_
  refine kw_iload_n X dL_law_771 rfl 3 rfl ?_
  refine kw_iconst X dL_law_772 ci_2 ?_
  refine kw_iadd X dL_law_773 ?_
  refine kl_sld (v := sc2) X S (ld_at (k := 2) (by decide) (by omega) hL).1 (by rw [(ld_at (k := 2) (by decide) (by omega) hL).2]; exact hs2) dL_law_774 ?_
  refine kw_aload_n X dL_law_775 rfl 0 rfl ?_
  refine kw_iload_n X dL_law_776 rfl 3 rfl ?_
  refine kw_iconst X dL_law_777 ci_3 ?_
  refine kw_iadd X dL_law_778 ?_
  refine kl_sld (v := sc3) X S (ld_at (k := 3) (by decide) (by omega) hL).1 (by rw [(ld_at (k := 3) (by decide) (by omega) hL).2]; exact hs3) dL_law_779 ?_
  obtain ⟨b1, hx1, hF⟩ := ob1_ex hF
  refine kb_mp X (r := .int b1) (As := [.int sc1, .int sc2, .int sc3]) (st := []) (c_X6_breaksIn l D cI cC cR h0 h1 t0 t1 a b d ah c s0 s1 k0 k1 g nx sz ch len cur verb fi se sc1 sc2 sc3 hb_k0 hb_k1 hnx hb_g Z b1 hx1) vl_L_105 yv_X6_breaksIn ⟨Nat.le_of_ble_eq_true rfl, Nat.le_of_ble_eq_true rfl⟩ ⟨rfl, rfl⟩ hnz 0 0 rfl rfl rfl [0, 1, 2, 3, 4, 5, 6] rfl rfl rfl rfl (Nat.le_of_ble_eq_true rfl) dL_law_780 ?_
  refine kw_aload_n X dL_law_783 rfl 2 rfl ?_
  refine kw_aload_n X dL_law_784 rfl 0 rfl ?_
  refine kw_iload_n X dL_law_785 rfl 3 rfl ?_
  refine kw_iconst X dL_law_786 ci_1 ?_
  refine kw_iadd X dL_law_787 ?_
  refine kl_sld (v := sc1) X S (ld_at (k := 1) (by decide) (by omega) hL).1 (by rw [(ld_at (k := 1) (by decide) (by omega) hL).2]; exact hs1) dL_law_788 ?_
  refine kw_aload_n X dL_law_789 rfl 0 rfl ?_
  refine kw_iload_n X dL_law_790 rfl 3 rfl ?_
  refine kw_iconst X dL_law_791 ci_2 ?_
  refine kw_iadd X dL_law_792 ?_
  refine kl_sld (v := sc2) X S (ld_at (k := 2) (by decide) (by omega) hL).1 (by rw [(ld_at (k := 2) (by decide) (by omega) hL).2]; exact hs2) dL_law_793 ?_
  refine kw_aload_n X dL_law_794 rfl 0 rfl ?_
  refine kw_iload_n X dL_law_795 rfl 3 rfl ?_
  refine kw_iconst X dL_law_796 ci_3 ?_
  refine kw_iadd X dL_law_797 ?_
  refine kl_sld (v := sc3) X S (ld_at (k := 3) (by decide) (by omega) hL).1 (by rw [(ld_at (k := 3) (by decide) (by omega) hL).2]; exact hs3) dL_law_798 ?_
  obtain ⟨b2, hx2, hF⟩ := ob1_ex hF
  refine kb_ap X (r := .int b2) (As := [.int sc1, .int sc2, .int sc3]) (st := [.int b1]) (c_X7_breaksIn l D cI cC cR mo0 mo1 mo2 mo3 mo4 q_p q_sv q_asd q_tx q_states q_len q_at_ q_letter q_one q_two q_number sc1 sc2 sc3 Z b2 hx2) vl_L_108 yv_X7_breaksIn ⟨Nat.le_of_ble_eq_true rfl, Nat.le_of_ble_eq_true rfl⟩ ⟨rfl, rfl⟩ hnz 7 0 rfl rfl rfl rfl rfl (Nat.le_of_ble_eq_true rfl) dL_law_799 ?_
  refine kw_icmp_eq X 843 dL_law_802 (by decide) (fun q3 => ?_) (fun q3 => ?_)
  · replace hF := (if_pos q3).symm.trans hF
    exact kk
  · replace hF := (if_neg q3).symm.trans hF
    refine kw_iconst X dL_law_805 ci_0 ?_
    exact none_some hF
-- L_case23
def f_L_23 (Z : Nat) (c : CV) (q_p : Nat → Int32) (q_asd : Nat → Int32) : Option ((Nat → Int32) × (Nat → Int32)) :=
  (ob1 (f_X6_emptied Z c) (fun (b1 : Int32) => (ob3 (f_X7_emptied Z q_p q_asd) (fun (b2 : Int32) (m3 : Nat → Int32) (m4 : Nat → Int32) => (if b1 = b2 then (some (m3, m4)) else none)))))
set_option maxHeartbeats 4000000 in
set_option maxRecDepth 100000 in
theorem c_L_23 {Γ : KG} {w0 : Cond} (l : Launch) (D : va_G) (cI cC cR : ClassId) (sb L : Nat) (xs : Nat → Int32) (X : KX Γ l room_1 D (TY cI cC cR) code 4 "RibbedLoansLaw" w0) (E : KE Γ) (S : KL Γ sb L xs) {n z : Nat} (hnz : n ≤ room_1.cells ∧ z ≤ room_1.slots) (h0 h1 t0 t1 : Nat) (a b d ah : Nat → Nat) (mo0 mo1 mo2 mo3 mo4 : Nat) (c : CV) (s0 : CV) (s1 : CV) (k0 : Int32) (k1 : Int32) (g : Nat → SV) (nx : Nat) (sz : Int32) (ch : Nat → Int32) (len : Int32) (cur : Int32) (verb : Int32) (fi : Int32) (se : Int32) (q_p : Nat → Int32) (q_sv : Nat → Int32) (q_asd : Nat → Int32) (q_tx : Nat → Int32) (q_states : Int32) (q_len : Int32) (q_at_ : Int32) (q_letter : Int32) (q_one : Int32) (q_two : Int32) (q_number : Int32) (j : Nat) (hj : j + 3 < L) (hL : L ≤ 2048) (hb_k0 : k0 = 0 ∨ k0 = 1) (hb_k1 : k1 = 0 ∨ k1 = 1) (hnx : nx < 5) (hb_g : ∀ i, ((g i).2.2.2.1 = 0 ∨ (g i).2.2.2.1 = 1) ∧ ((g i).2.2.2.2 = 0 ∨ (g i).2.2.2.2 = 1)) (Z : Nat) (sc1 sc2 sc3 : Int32) (hs1 : xs (j + 1) = sc1) (hs2 : xs (j + 2) = sc2) (hs3 : xs (j + 3) = sc3) (q_p' : Nat → Int32) (q_asd' : Nat → Int32) (hF : f_L_23 Z c q_p q_asd = some (q_p', q_asd')) (kk : KW Γ n z (wj [[(h0, .inr (6, [.ref h1, .ref (ah 0), .ref t0]))], [(h1, .inr (3, [.ref (a 0), .ref (b 0), .ref (d 0), .int k0, .int k1]))], bC cI a c, bC cI b s0, bC cI d s1, bH cI cR ah g nx sz, wX4 cC t0 t1 ch len cur verb fi se, wX7 cI mo0 mo1 mo2 mo3 mo4 q_p' q_sv q_asd' q_tx q_states q_len q_at_ q_letter q_one q_two q_number]) [(0, .ref sb), (1, .ref h0), (2, .ref mo0), (3, .int (nI j))] 843 []) : KW Γ n z (wj [[(h0, .inr (6, [.ref h1, .ref (ah 0), .ref t0]))], [(h1, .inr (3, [.ref (a 0), .ref (b 0), .ref (d 0), .int k0, .int k1]))], bC cI a c, bC cI b s0, bC cI d s1, bH cI cR ah g nx sz, wX4 cC t0 t1 ch len cur verb fi se, wX7 cI mo0 mo1 mo2 mo3 mo4 q_p q_sv q_asd q_tx q_states q_len q_at_ q_letter q_one q_two q_number]) [(0, .ref sb), (1, .ref h0), (2, .ref mo0), (3, .int (nI j))] 807 [] := by
  unfold f_L_23 at hF
  refine kw_aload_n X dL_law_807 rfl 1 rfl ?_
  obtain ⟨b1, hx1, hF⟩ := ob1_ex hF
  refine kb_mp X (r := .int b1) (As := []) (st := []) (c_X6_emptied l D cI cC cR h0 h1 t0 t1 a b d ah c s0 s1 k0 k1 g nx sz ch len cur verb fi se hb_k0 hb_k1 hnx hb_g Z b1 hx1) vl_L_109 yv_X6_emptied ⟨Nat.le_of_ble_eq_true rfl, Nat.le_of_ble_eq_true rfl⟩ ⟨rfl, rfl⟩ hnz 0 0 rfl rfl rfl [0, 1, 2, 3, 4, 5, 6] rfl rfl rfl rfl (Nat.le_of_ble_eq_true rfl) dL_law_808 ?_
  refine kw_aload_n X dL_law_811 rfl 2 rfl ?_
  obtain ⟨b2, m3, m4, hx4, hF⟩ := ob3_ex hF
  refine kb_aei X (r := .int b2) (As := []) (st := [.int b1]) (bs' := [[(h0, .inr (6, [.ref h1, .ref (ah 0), .ref t0]))], [(h1, .inr (3, [.ref (a 0), .ref (b 0), .ref (d 0), .int k0, .int k1]))], bC cI a c, bC cI b s0, bC cI d s1, bH cI cR ah g nx sz, wX4 cC t0 t1 ch len cur verb fi se, wX7 cI mo0 mo1 mo2 mo3 mo4 m3 q_sv m4 q_tx q_states q_len q_at_ q_letter q_one q_two q_number]) E (c_X7_emptied l D cI cC cR mo0 mo1 mo2 mo3 mo4 q_p q_sv q_asd q_tx q_states q_len q_at_ q_letter q_one q_two q_number Z b2 m3 m4 hx4) vl_L_112 yv_X7_emptied ⟨Nat.le_of_ble_eq_true rfl, Nat.le_of_ble_eq_true rfl⟩ ⟨rfl, rfl⟩ hnz 7 0 rfl rfl rfl rfl rfl (Nat.le_of_ble_eq_true rfl) dL_law_812 [mo0, mo1, mo2, mo3, mo4] rfl rfl rfl ?_
  refine kw_icmp_eq X 843 dL_law_815 (by decide) (fun q5 => ?_) (fun q5 => ?_)
  · replace hF := (if_pos q5).symm.trans hF
    obtain ⟨rfl, rfl⟩ := si2 hF
    exact kk
  · replace hF := (if_neg q5).symm.trans hF
    refine kw_iconst X dL_law_818 ci_0 ?_
    exact none_some hF
-- L_case24
def f_L_24 (Z : Nat) (c : CV) (q_p : Nat → Int32) (sc1 : Int32) : Option (Unit) :=
  (ob1 (f_X6_shortest Z c sc1) (fun (b1 : Int32) => (ob1 (f_X7_shortest Z q_p sc1) (fun (b2 : Int32) => (if b1 = b2 then (some ()) else none)))))
set_option maxHeartbeats 4000000 in
set_option maxRecDepth 100000 in
theorem c_L_24 {Γ : KG} {w0 : Cond} (l : Launch) (D : va_G) (cI cC cR : ClassId) (sb L : Nat) (xs : Nat → Int32) (X : KX Γ l room_1 D (TY cI cC cR) code 4 "RibbedLoansLaw" w0) (E : KE Γ) (S : KL Γ sb L xs) {n z : Nat} (hnz : n ≤ room_1.cells ∧ z ≤ room_1.slots) (h0 h1 t0 t1 : Nat) (a b d ah : Nat → Nat) (mo0 mo1 mo2 mo3 mo4 : Nat) (c : CV) (s0 : CV) (s1 : CV) (k0 : Int32) (k1 : Int32) (g : Nat → SV) (nx : Nat) (sz : Int32) (ch : Nat → Int32) (len : Int32) (cur : Int32) (verb : Int32) (fi : Int32) (se : Int32) (q_p : Nat → Int32) (q_sv : Nat → Int32) (q_asd : Nat → Int32) (q_tx : Nat → Int32) (q_states : Int32) (q_len : Int32) (q_at_ : Int32) (q_letter : Int32) (q_one : Int32) (q_two : Int32) (q_number : Int32) (j : Nat) (hj : j + 3 < L) (hL : L ≤ 2048) (hb_k0 : k0 = 0 ∨ k0 = 1) (hb_k1 : k1 = 0 ∨ k1 = 1) (hnx : nx < 5) (hb_g : ∀ i, ((g i).2.2.2.1 = 0 ∨ (g i).2.2.2.1 = 1) ∧ ((g i).2.2.2.2 = 0 ∨ (g i).2.2.2.2 = 1)) (Z : Nat) (sc1 sc2 sc3 : Int32) (hs1 : xs (j + 1) = sc1) (hs2 : xs (j + 2) = sc2) (hs3 : xs (j + 3) = sc3) (hF : f_L_24 Z c q_p sc1 = some ()) (kk : KW Γ n z (wj [[(h0, .inr (6, [.ref h1, .ref (ah 0), .ref t0]))], [(h1, .inr (3, [.ref (a 0), .ref (b 0), .ref (d 0), .int k0, .int k1]))], bC cI a c, bC cI b s0, bC cI d s1, bH cI cR ah g nx sz, wX4 cC t0 t1 ch len cur verb fi se, wX7 cI mo0 mo1 mo2 mo3 mo4 q_p q_sv q_asd q_tx q_states q_len q_at_ q_letter q_one q_two q_number]) [(0, .ref sb), (1, .ref h0), (2, .ref mo0), (3, .int (nI j))] 843 []) : KW Γ n z (wj [[(h0, .inr (6, [.ref h1, .ref (ah 0), .ref t0]))], [(h1, .inr (3, [.ref (a 0), .ref (b 0), .ref (d 0), .int k0, .int k1]))], bC cI a c, bC cI b s0, bC cI d s1, bH cI cR ah g nx sz, wX4 cC t0 t1 ch len cur verb fi se, wX7 cI mo0 mo1 mo2 mo3 mo4 q_p q_sv q_asd q_tx q_states q_len q_at_ q_letter q_one q_two q_number]) [(0, .ref sb), (1, .ref h0), (2, .ref mo0), (3, .int (nI j))] 820 [] := by
  unfold f_L_24 at hF
  refine kw_aload_n X dL_law_820 rfl 1 rfl ?_
  refine kw_aload_n X dL_law_821 rfl 0 rfl ?_
  refine kw_iload_n X dL_law_822 rfl 3 rfl ?_
  refine kw_iconst X dL_law_823 ci_1 ?_
  refine kw_iadd X dL_law_824 ?_
  refine kl_sld (v := sc1) X S (ld_at (k := 1) (by decide) (by omega) hL).1 (by rw [(ld_at (k := 1) (by decide) (by omega) hL).2]; exact hs1) dL_law_825 ?_
  obtain ⟨b1, hx1, hF⟩ := ob1_ex hF
  refine kb_mp X (r := .int b1) (As := [.int sc1]) (st := []) (c_X6_shortest l D cI cC cR h0 h1 t0 t1 a b d ah c s0 s1 k0 k1 g nx sz ch len cur verb fi se sc1 hb_k0 hb_k1 hnx hb_g Z b1 hx1) vl_L_113 yv_X6_shortest ⟨Nat.le_of_ble_eq_true rfl, Nat.le_of_ble_eq_true rfl⟩ ⟨rfl, rfl⟩ hnz 0 0 rfl rfl rfl [0, 1, 2, 3, 4, 5, 6] rfl rfl rfl rfl (Nat.le_of_ble_eq_true rfl) dL_law_826 ?_
  refine kw_aload_n X dL_law_829 rfl 2 rfl ?_
  refine kw_aload_n X dL_law_830 rfl 0 rfl ?_
  refine kw_iload_n X dL_law_831 rfl 3 rfl ?_
  refine kw_iconst X dL_law_832 ci_1 ?_
  refine kw_iadd X dL_law_833 ?_
  refine kl_sld (v := sc1) X S (ld_at (k := 1) (by decide) (by omega) hL).1 (by rw [(ld_at (k := 1) (by decide) (by omega) hL).2]; exact hs1) dL_law_834 ?_
  obtain ⟨b2, hx2, hF⟩ := ob1_ex hF
  refine kb_ap X (r := .int b2) (As := [.int sc1]) (st := [.int b1]) (c_X7_shortest l D cI cC cR mo0 mo1 mo2 mo3 mo4 q_p q_sv q_asd q_tx q_states q_len q_at_ q_letter q_one q_two q_number sc1 Z b2 hx2) vl_L_116 yv_X7_shortest ⟨Nat.le_of_ble_eq_true rfl, Nat.le_of_ble_eq_true rfl⟩ ⟨rfl, rfl⟩ hnz 7 0 rfl rfl rfl rfl rfl (Nat.le_of_ble_eq_true rfl) dL_law_835 ?_
  refine kw_icmp_eq X 843 dL_law_838 (by decide) (fun q3 => ?_) (fun q3 => ?_)
  · replace hF := (if_pos q3).symm.trans hF
    exact kk
  · replace hF := (if_neg q3).symm.trans hF
    refine kw_iconst X dL_law_841 ci_0 ?_
    exact none_some hF
