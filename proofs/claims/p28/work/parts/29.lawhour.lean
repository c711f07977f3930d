noncomputable def f_L_hour_L281 (Z : Nat) (p2 : Int32) (p3 : Int32) (w23 : Nat → Int32) (w47 : OV) : Nat → Int32 → Int32 → Option (Int32)
  | 0, _, _ => none
  | F + 1, v9_182, v11_183 => (if v11_183 < 12 then (if v9_182 = 0 then (some (v9_182)) else (ob1 (m_person Z w47 v11_183 1) (fun (b186 : Int32) => ob1 (aget 12 w23 v11_183) (fun (a187 : Int32) => (ob1 (if a187 < 0 then (some 1) else (if b186 = (-9) then (some 0) else (ob1 (m_umbrella w47 b186 3) (fun (b208 : Int32) => (pl1 (if b208 = 1 then 1 else 0) (fun (x210 : Int32) => ob1 (aget 12 w23 v11_183) (fun (a212 : Int32) => (pl1 (if a212 < 2 then 1 else 0) (fun (x214 : Int32) => (if x210 = x214 then ob1 (aget 12 w23 v11_183) (fun (a217 : Int32) => (if a217 < 2 then (some 1) else (ob1 (m_breaksIn Z w47 v11_183 p2 p3) (fun (b219 : Int32) => ob1 (aget 12 w23 v11_183) (fun (a220 : Int32) => (if b219 = (a220 - 1) then (some 1) else (some 0))))))) else (some 0))))))))))) (fun (x205 : Int32) => (f_L_hour_L281 Z p2 p3 w23 w47 F x205 (v11_183 + 1)))))))) else (some (v9_182)))
noncomputable def f_L_hour_L227 (Z : Nat) (w45 : Nat → Int32) (w47 : OV) : Nat → Int32 → Int32 → Option (Int32)
  | 0, _, _ => none
  | F + 1, v9_222, v11_223 => (ob1 (m_count Z w47 1) (fun (b224 : Int32) => (if v11_223 < b224 then (if v9_222 = 0 then (some (v9_222)) else ob1 (aget 60 w45 v11_223) (fun (a227 : Int32) => (ob1 (if a227 < 0 then (some 1) else (ob1 (m_umbrella w47 v11_223 2) (fun (b234 : Int32) => ob1 (aget 60 w45 v11_223) (fun (a235 : Int32) => (if b234 = a235 then (some 1) else (some 0)))))) (fun (x232 : Int32) => (f_L_hour_L227 Z w45 w47 F x232 (v11_223 + 1)))))) else (some (v9_222)))))
noncomputable def f_L_hour_L186 (Z : Nat) (w47 : OV) : Nat → Int32 → Int32 → Option (Int32)
  | 0, _, _ => none
  | F + 1, v10_237, v11_238 => (if v11_238 < 8 then (ob1 (m_stand Z w47 v11_238 3) (fun (b240 : Int32) => (pl1 (if b240 = (-9) then (1 <<< (v11_238 &&& 31)) else 0) (fun (x242 : Int32) => (f_L_hour_L186 Z w47 F (v10_237 ||| x242) (v11_238 + 1)))))) else (some (v10_237)))
noncomputable def f_L_hour_L86 (Z : Nat) (v : OV) : Nat → Int32 → (Nat → Int32) → Option ((Nat → Int32))
  | 0, _, _ => none
  | F + 1, v9_251, w252 => (ob1 (m_count Z v 1) (fun (b253 : Int32) => (if v9_251 < b253 then (ob1 (m_umbrella v v9_251 0) (fun (b255 : Int32) => (ob1 (if b255 = 1 then (some (-1)) else (ob1 (m_umbrella v v9_251 2) (fun (b261 : Int32) => (some b261)))) (fun (x258 : Int32) => ob1 (aset 60 w252 v9_251 x258) (fun (m260 : Nat → Int32) => (f_L_hour_L86 Z v F (v9_251 + 1) m260)))))) else (some (w252)))))
noncomputable def f_L_hour_L32 (Z : Nat) (v : OV) (p2 : Int32) (p3 : Int32) : Nat → Int32 → Int32 → (Nat → Int32) → Option (Int32 × (Nat → Int32))
  | 0, _, _, _ => none
  | F + 1, v7_262, v8_263, w264 => (if v8_263 < 12 then (ob1 (m_breaksIn Z v v8_263 p2 p3) (fun (b266 : Int32) => ob1 (aset 12 w264 v8_263 b266) (fun (m267 : Nat → Int32) => ob1 (aget 12 m267 v8_263) (fun (a268 : Int32) => (pl1 (if a268 = 1 then 1 else 0) (fun (x270 : Int32) => (f_L_hour_L32 Z v p2 p3 F (v7_262 + x270) (v8_263 + 1) m267))))))) else (some (v7_262, w264)))
noncomputable def f_L_hour (Z : Nat) (v : OV) (p2 : Int32) (p3 : Int32) : Option (Int32 × OV) :=
  (ob1 (m_count Z v 13) (fun (b1 : Int32) => (ob1 (m_count Z v 0) (fun (b2 : Int32) => (ob1 (m_emptied Z v) (fun (b3 : Int32) => (ob2 (f_L_hour_L32 Z v p2 p3 Z 0 0 (fun _ => 0)) (fun (e22 : Int32) (w23 : Nat → Int32) => (ob1 (f_L_hour_L86 Z v Z 0 (fun _ => 0)) (fun (w45 : Nat → Int32) => (ob2 (m_hour Z v p2 p3) (fun (b46 : Int32) (w47 : OV) => (ob1 (if b46 = e22 then (ob1 (m_count Z w47 0) (fun (b244 : Int32) => (if b244 = (b2 + 1) then (ob1 (m_count Z w47 13) (fun (b246 : Int32) => (pl1 (if 4 < p2 then 1 else 0) (fun (x248 : Int32) => (if b246 = (b1 + x248) then (some 1) else (some 0)))))) else (some 0)))) else (some 0)) (fun (x56 : Int32) => (ob1 (f_L_hour_L186 Z w47 Z 0 0) (fun (e70 : Int32) => (ob1 (f_L_hour_L227 Z w45 w47 Z x56 0) (fun (e99 : Int32) => (ob1 (f_L_hour_L281 Z p2 p3 w23 w47 Z e99 0) (fun (e178 : Int32) => (if e178 = 0 then (some (0, w47)) else (if p2 < 5 then (some (1, w47)) else (if b3 = e70 then (some (1, w47)) else (some (0, w47)))))))))))))))))))))))))
abbrev rm_L_hour : Room := { frames := 7, cells := 2, slots := 72, locals := 155 }
set_option maxHeartbeats 8000000 in
set_option maxRecDepth 100000 in
theorem c_L_hour (l : Launch) (D : va_G) (cI cC cR : ClassId) (h0 h1 t0 t1 : Nat) (a b d ah : Nat → Nat) (v : OV) (p2 : Int32) (p3 : Int32) (Z : Nat) (r : Int32) (v' : OV) (hF : f_L_hour Z v p2 p3 = some (r, v')) : MEn l yL_hour cL_hour 13 (some .boolean) rm_L_hour D (TY cI cC cR) [.ref h0, .int p2, .int p3] (bO cI cC cR h0 h1 t0 t1 a b d ah v) (bO cI cC cR h0 h1 t0 t1 a b d ah v') (some (.int r)) 2 72 := by
  refine me_en pn_L (Nat.le_of_ble_eq_true rfl) rfl (fun Γ X E hret => ?_)
  refine kb_one ?_
  unfold f_L_hour at hF
  refine kw_aload_n X dL_hour_0 rfl 0 rfl ?_
  refine kw_bipush X dL_hour_1 cb_13 ?_
  obtain ⟨b1, hx1, hF⟩ := ob1_ex hF
  refine kb_ap X (r := .int b1) (As := [.int 13]) (st := []) (cm_count l D cI cC cR h0 h1 t0 t1 a b d ah v 13 Z b1 hx1) vl_L_9 yv_X6_count ⟨Nat.le_of_ble_eq_true rfl, Nat.le_of_ble_eq_true rfl⟩ ⟨rfl, rfl⟩ ⟨Nat.le_of_ble_eq_true rfl, Nat.le_of_ble_eq_true rfl⟩ 0 0 rfl bO_0 rfl rfl rfl (Nat.le_of_ble_eq_true rfl) dL_hour_3 ?_
  refine kw_istore_n (lo' := [(0, .ref h0), (1, .int p2), (2, .int p3), (3, .int b1)]) X dL_hour_6 rfl (by decide) [1, 2, 3, 0] rfl ?_
  refine kw_aload_n X dL_hour_7 rfl 0 rfl ?_
  refine kw_iconst X dL_hour_8 ci_0 ?_
  obtain ⟨b2, hx2, hF⟩ := ob1_ex hF
  refine kb_ap X (r := .int b2) (As := [.int 0]) (st := []) (cm_count l D cI cC cR h0 h1 t0 t1 a b d ah v 0 Z b2 hx2) vl_L_9 yv_X6_count ⟨Nat.le_of_ble_eq_true rfl, Nat.le_of_ble_eq_true rfl⟩ ⟨rfl, rfl⟩ ⟨Nat.le_of_ble_eq_true rfl, Nat.le_of_ble_eq_true rfl⟩ 0 0 rfl bO_0 rfl rfl rfl (Nat.le_of_ble_eq_true rfl) dL_hour_9 ?_
  refine kw_istore (lo' := [(0, .ref h0), (1, .int p2), (2, .int p3), (3, .int b1), (4, .int b2)]) X dL_hour_12 (by decide) [1, 2, 3, 4, 0] rfl ?_
  refine kw_aload_n X dL_hour_14 rfl 0 rfl ?_
  obtain ⟨b3, hx3, hF⟩ := ob1_ex hF
  refine kb_ap X (r := .int b3) (As := []) (st := []) (cm_emptied l D cI cC cR h0 h1 t0 t1 a b d ah v Z b3 hx3) vl_L_34 yv_X6_emptied ⟨Nat.le_of_ble_eq_true rfl, Nat.le_of_ble_eq_true rfl⟩ ⟨rfl, rfl⟩ ⟨Nat.le_of_ble_eq_true rfl, Nat.le_of_ble_eq_true rfl⟩ 0 0 rfl bO_0 rfl rfl rfl (Nat.le_of_ble_eq_true rfl) dL_hour_15 ?_
  refine kw_istore (lo' := [(0, .ref h0), (1, .int p2), (2, .int p3), (3, .int b1), (4, .int b2), (5, .int b3)]) X dL_hour_18 (by decide) [1, 2, 3, 4, 5, 0] rfl ?_
  refine kw_bipush X dL_hour_20 cb_12 ?_
  refine kb_newa (atype := .int) (N := 12) X E gw_64 rfl (t0 := 0) rfl (fun C h => by cases h) rfl (by decide) (by decide) (Nat.le_of_ble_eq_true rfl) ⟨Nat.le_of_ble_eq_true rfl, Nat.le_of_ble_eq_true rfl⟩ dL_hour_22 (fun q4 => ?_)
  refine kw_weq (ws' := wj [bO cI cC cR h0 h1 t0 t1 a b d ah v, [(q4, .inl (cI, 12, .inl (fun _ => 0)))]]) rfl ?_
  refine kw_astore (lo' := [(0, .ref h0), (1, .int p2), (2, .int p3), (3, .int b1), (4, .int b2), (5, .int b3), (6, .ref q4)]) X dL_hour_24 (by decide) [1, 2, 3, 4, 5, 6, 0] rfl ?_
  refine kw_iconst X dL_hour_26 ci_0 ?_
  refine kw_istore (lo' := [(0, .ref h0), (1, .int p2), (2, .int p3), (3, .int b1), (4, .int b2), (5, .int b3), (6, .ref q4), (7, .int 0)]) X dL_hour_27 (by decide) [1, 2, 3, 4, 5, 6, 7, 0] rfl ?_
  refine kw_iconst X dL_hour_29 ci_0 ?_
  refine kw_istore (lo' := [(0, .ref h0), (1, .int p2), (2, .int p3), (3, .int b1), (4, .int b2), (5, .int b3), (6, .ref q4), (7, .int 0), (8, .int 0)]) X dL_hour_30 (by decide) [1, 2, 3, 4, 5, 6, 7, 8, 0] rfl ?_
  obtain ⟨e22, w23, hx, hF⟩ := ob2_ex hF
  have J : KW Γ 1 12 (wj [bO cI cC cR h0 h1 t0 t1 a b d ah v, [(q4, .inl (cI, 12, .inl w23))]]) [(0, .ref h0), (1, .int p2), (2, .int p3), (3, .int b1), (4, .int b2), (5, .int b3), (6, .ref q4), (7, .int e22)] 77 [] := by
    refine kw_bipush X dL_hour_77 cb_60 ?_
    refine kb_newa (atype := .int) (N := 60) X E gw_64 rfl (t0 := 0) rfl (fun C h => by cases h) rfl (by decide) (by decide) (Nat.le_of_ble_eq_true rfl) ⟨Nat.le_of_ble_eq_true rfl, Nat.le_of_ble_eq_true rfl⟩ dL_hour_79 (fun q24 => ?_)
    refine kw_weq (ws' := wj [bO cI cC cR h0 h1 t0 t1 a b d ah v, [(q4, .inl (cI, 12, .inl w23))], [(q24, .inl (cI, 60, .inl (fun _ => 0)))]]) rfl ?_
    refine kw_astore (lo' := [(0, .ref h0), (1, .int p2), (2, .int p3), (3, .int b1), (4, .int b2), (5, .int b3), (6, .ref q4), (7, .int e22), (8, .ref q24)]) X dL_hour_81 (by decide) [1, 2, 3, 4, 5, 6, 7, 8, 0] rfl ?_
    refine kw_iconst X dL_hour_83 ci_0 ?_
    refine kw_istore (lo' := [(0, .ref h0), (1, .int p2), (2, .int p3), (3, .int b1), (4, .int b2), (5, .int b3), (6, .ref q4), (7, .int e22), (8, .ref q24), (9, .int 0)]) X dL_hour_84 (by decide) [1, 2, 3, 4, 5, 6, 7, 8, 9, 0] rfl ?_
    obtain ⟨w45, hx, hF⟩ := ob1_ex hF
    have J : KW Γ 2 72 (wj [bO cI cC cR h0 h1 t0 t1 a b d ah v, [(q4, .inl (cI, 12, .inl w23))], [(q24, .inl (cI, 60, .inl w45))]]) [(0, .ref h0), (1, .int p2), (2, .int p3), (3, .int b1), (4, .int b2), (5, .int b3), (6, .ref q4), (7, .int e22), (8, .ref q24)] 129 [] := by
      refine kw_aload_n X dL_hour_129 rfl 0 rfl ?_
      refine kw_iload_n X dL_hour_130 rfl 1 rfl ?_
      refine kw_iload_n X dL_hour_131 rfl 2 rfl ?_
      obtain ⟨b46, w47, hx47, hF⟩ := ob2_ex hF
      refine kb_aei X (r := .int b46) (As := [.int p2, .int p3]) (st := []) (bs' := [bO cI cC cR h0 h1 t0 t1 a b d ah w47, [(q4, .inl (cI, 12, .inl w23))], [(q24, .inl (cI, 60, .inl w45))]]) E (cm_hour l D cI cC cR h0 h1 t0 t1 a b d ah v p2 p3 Z b46 w47 hx47) vl_L_38 yv_X6_hour ⟨Nat.le_of_ble_eq_true rfl, Nat.le_of_ble_eq_true rfl⟩ ⟨rfl, rfl⟩ ⟨Nat.le_of_ble_eq_true rfl, Nat.le_of_ble_eq_true rfl⟩ 0 0 rfl bO_0 rfl rfl rfl (Nat.le_of_ble_eq_true rfl) dL_hour_132 ((bO cI cC cR h0 h1 t0 t1 a b d ah v).map (·.1)) bO_same rfl rfl ?_
      refine kw_iload X dL_hour_135 7 rfl ?_
      obtain ⟨x56, hx57, hF⟩ := ob1_ex hF
      have J : KW Γ 2 72 (wj [bO cI cC cR h0 h1 t0 t1 a b d ah w47, [(q4, .inl (cI, 12, .inl w23))], [(q24, .inl (cI, 60, .inl w45))]]) [(0, .ref h0), (1, .int p2), (2, .int p3), (5, .int b3), (6, .ref q4), (8, .ref q24)] 178 [.int x56] := by
        refine kw_istore (lo' := [(0, .ref h0), (1, .int p2), (2, .int p3), (5, .int b3), (6, .ref q4), (8, .ref q24), (9, .int x56)]) X dL_hour_178 (by decide) [1, 2, 3, 4, 5, 6, 0] rfl ?_
        refine kw_iconst X dL_hour_180 ci_0 ?_
        refine kw_istore (lo' := [(0, .ref h0), (1, .int p2), (2, .int p3), (5, .int b3), (6, .ref q4), (8, .ref q24), (9, .int x56), (10, .int 0)]) X dL_hour_181 (by decide) [1, 2, 3, 4, 5, 6, 7, 0] rfl ?_
        refine kw_iconst X dL_hour_183 ci_0 ?_
        refine kw_istore (lo' := [(0, .ref h0), (1, .int p2), (2, .int p3), (5, .int b3), (6, .ref q4), (8, .ref q24), (9, .int x56), (10, .int 0), (11, .int 0)]) X dL_hour_184 (by decide) [1, 2, 3, 4, 5, 6, 7, 8, 0] rfl ?_
        obtain ⟨e70, hx, hF⟩ := ob1_ex hF
        have J : KW Γ 2 72 (wj [bO cI cC cR h0 h1 t0 t1 a b d ah w47, [(q4, .inl (cI, 12, .inl w23))], [(q24, .inl (cI, 60, .inl w45))]]) [(0, .ref h0), (1, .int p2), (2, .int p3), (5, .int b3), (6, .ref q4), (8, .ref q24), (9, .int x56), (10, .int e70)] 224 [] := by
          refine kw_iconst X dL_hour_224 ci_0 ?_
          refine kw_istore (lo' := [(0, .ref h0), (1, .int p2), (2, .int p3), (5, .int b3), (6, .ref q4), (8, .ref q24), (9, .int x56), (10, .int e70), (11, .int 0)]) X dL_hour_225 (by decide) [1, 2, 3, 4, 5, 6, 7, 8, 0] rfl ?_
          obtain ⟨e99, hx, hF⟩ := ob1_ex hF
          have J : KW Γ 2 72 (wj [bO cI cC cR h0 h1 t0 t1 a b d ah w47, [(q4, .inl (cI, 12, .inl w23))], [(q24, .inl (cI, 60, .inl w45))]]) [(0, .ref h0), (1, .int p2), (2, .int p3), (5, .int b3), (6, .ref q4), (9, .int e99), (10, .int e70)] 278 [] := by
            refine kw_iconst X dL_hour_278 ci_0 ?_
            refine kw_istore (lo' := [(0, .ref h0), (1, .int p2), (2, .int p3), (5, .int b3), (6, .ref q4), (9, .int e99), (10, .int e70), (11, .int 0)]) X dL_hour_279 (by decide) [1, 2, 3, 4, 5, 6, 7, 0] rfl ?_
            obtain ⟨e178, hx, hF⟩ := ob1_ex hF
            have J : KW Γ 2 72 (wj [bO cI cC cR h0 h1 t0 t1 a b d ah w47, [(q4, .inl (cI, 12, .inl w23))], [(q24, .inl (cI, 60, .inl w45))]]) [(1, .int p2), (5, .int b3), (9, .int e178), (10, .int e70)] 390 [] := by
              refine kw_iload X dL_hour_390 2 rfl ?_
              refine kw_if_eq X 411 dL_hour_392 (by decide) (fun q179 => ?_) (fun q179 => ?_)
              · replace hF := (if_pos q179).symm.trans hF
                refine kw_iconst X dL_hour_411 ci_0 ?_
                obtain ⟨rfl, rfl⟩ := si2 hF
                refine kb_first ?_
                exact hret _ _ rfl dL_hour_412
              · replace hF := (if_neg q179).symm.trans hF
                refine kw_iload_n X dL_hour_395 rfl 0 rfl ?_
                refine kw_iconst X dL_hour_396 ci_5 ?_
                refine kw_icmp_lt X 407 dL_hour_397 (by decide) (fun q180 => ?_) (fun q180 => ?_)
                · replace hF := (if_pos q180).symm.trans hF
                  refine kw_iconst X dL_hour_407 ci_1 ?_
                  refine kw_goto X 412 dL_hour_408 (by decide) ?_
                  obtain ⟨rfl, rfl⟩ := si2 hF
                  refine kb_first ?_
                  exact hret _ _ rfl dL_hour_412
                · replace hF := (if_neg q180).symm.trans hF
                  refine kw_iload X dL_hour_400 1 rfl ?_
                  refine kw_iload X dL_hour_402 3 rfl ?_
                  refine kw_icmp_ne X 411 dL_hour_404 (by decide) (fun q181 => ?_) (fun q181 => ?_)
                  · replace hF := (if_neg q181).symm.trans hF
                    refine kw_iconst X dL_hour_411 ci_0 ?_
                    obtain ⟨rfl, rfl⟩ := si2 hF
                    refine kb_first ?_
                    exact hret _ _ rfl dL_hour_412
                  · replace hF := (if_pos q181).symm.trans hF
                    refine kw_iconst X dL_hour_407 ci_1 ?_
                    refine kw_goto X 412 dL_hour_408 (by decide) ?_
                    obtain ⟨rfl, rfl⟩ := si2 hF
                    refine kb_first ?_
                    exact hret _ _ rfl dL_hour_412
            have hL281 : ∀ (F : Nat) (v9_182 : Int32) (v11_183 : Int32), f_L_hour_L281 Z p2 p3 w23 w47 F v9_182 v11_183 = some (e178) → KW Γ 2 72 (wj [bO cI cC cR h0 h1 t0 t1 a b d ah w47, [(q4, .inl (cI, 12, .inl w23))], [(q24, .inl (cI, 60, .inl w45))]]) [(0, .ref h0), (1, .int p2), (2, .int p3), (5, .int b3), (6, .ref q4), (9, .int v9_182), (10, .int e70), (11, .int v11_183)] 281 [] := by
              intro F
              induction F with
              | zero => intro v9_182 v11_183 hF; exact none_some hF
              | succ F ih281 =>
                intro v9_182 v11_183 hF
                rw [f_L_hour_L281] at hF
                refine kw_iload X dL_hour_281 7 rfl ?_
                refine kw_bipush X dL_hour_283 cb_12 ?_
                refine kw_icmp_ge X 390 dL_hour_285 (by decide) (fun q184 => ?_) (fun q184 => ?_)
                · replace hF := (if_neg q184).symm.trans hF
                  refine kw_loc (lo' := [(1, .int p2), (5, .int b3), (9, .int v9_182), (10, .int e70)]) [1, 3, 5, 6] rfl ?_
                  obtain rfl := si1 hF
                  exact J
                · replace hF := (if_pos q184).symm.trans hF
                  refine kw_iload X dL_hour_288 5 rfl ?_
                  refine kw_if_eq X 390 dL_hour_290 (by decide) (fun q185 => ?_) (fun q185 => ?_)
                  · replace hF := (if_pos q185).symm.trans hF
                    refine kw_loc (lo' := [(1, .int p2), (5, .int b3), (9, .int v9_182), (10, .int e70)]) [1, 3, 5, 6] rfl ?_
                    obtain rfl := si1 hF
                    exact J
                  · replace hF := (if_neg q185).symm.trans hF
                    refine kw_aload_n X dL_hour_293 rfl 0 rfl ?_
                    refine kw_iload X dL_hour_294 7 rfl ?_
                    refine kw_iconst X dL_hour_296 ci_1 ?_
                    obtain ⟨b186, hx186, hF⟩ := ob1_ex hF
                    refine kb_ap X (r := .int b186) (As := [.int v11_183, .int 1]) (st := []) (cm_person l D cI cC cR h0 h1 t0 t1 a b d ah w47 v11_183 1 Z b186 hx186) vl_L_21 yv_X6_person ⟨Nat.le_of_ble_eq_true rfl, Nat.le_of_ble_eq_true rfl⟩ ⟨rfl, rfl⟩ ⟨Nat.le_of_ble_eq_true rfl, Nat.le_of_ble_eq_true rfl⟩ 0 0 rfl bO_0 rfl rfl rfl (Nat.le_of_ble_eq_true rfl) dL_hour_297 ?_
                    refine kw_istore (lo' := [(0, .ref h0), (1, .int p2), (2, .int p3), (5, .int b3), (6, .ref q4), (9, .int v9_182), (10, .int e70), (11, .int v11_183), (12, .int b186)]) X dL_hour_300 (by decide) [1, 2, 3, 4, 5, 6, 7, 8, 0] rfl ?_
                    refine kw_aload X dL_hour_302 4 rfl ?_
                    refine kw_iload X dL_hour_304 7 rfl ?_
                    obtain ⟨a187, hx, hF⟩ := ob1_ex hF
                    obtain ⟨hin, hx⟩ := aget_ex hx
                    refine kb_iald X 1 0 0 rfl rfl rfl hin hx dL_hour_306 ?_
                    obtain ⟨x205, hx206, hF⟩ := ob1_ex hF
                    have J : KW Γ 2 72 (wj [bO cI cC cR h0 h1 t0 t1 a b d ah w47, [(q4, .inl (cI, 12, .inl w23))], [(q24, .inl (cI, 60, .inl w45))]]) [(0, .ref h0), (1, .int p2), (2, .int p3), (5, .int b3), (6, .ref q4), (10, .int e70), (11, .int v11_183)] 382 [.int x205] := by
                      refine kw_istore (lo' := [(0, .ref h0), (1, .int p2), (2, .int p3), (5, .int b3), (6, .ref q4), (9, .int x205), (10, .int e70), (11, .int v11_183)]) X dL_hour_382 (by decide) [1, 2, 3, 4, 5, 0, 6, 7] rfl ?_
                      refine kw_iinc (lo' := [(0, .ref h0), (1, .int p2), (2, .int p3), (5, .int b3), (6, .ref q4), (9, .int x205), (10, .int e70), (11, .int (v11_183 + 1))]) X dL_hour_384 7 rfl (congrArg (fun w => v11_183 + w) ci_1) (by decide) [1, 2, 3, 4, 5, 6, 7, 0] rfl ?_
                      refine kw_goto X 281 dL_hour_387 (by decide) ?_
                      exact ih281 _ _ hF
                    replace hF := hx206
                    refine kw_if_lt X 377 dL_hour_307 (by decide) (fun q188 => ?_) (fun q188 => ?_)
                    · replace hF := (if_pos q188).symm.trans hF
                      refine kw_iconst X dL_hour_377 ci_1 ?_
                      refine kw_goto X 382 dL_hour_378 (by decide) ?_
                      refine kw_loc (lo' := [(0, .ref h0), (1, .int p2), (2, .int p3), (5, .int b3), (6, .ref q4), (10, .int e70), (11, .int v11_183)]) [0, 1, 2, 3, 4, 6, 7] rfl ?_
                      obtain rfl := si1 hF
                      exact J
                    · replace hF := (if_neg q188).symm.trans hF
                      refine kw_iload X dL_hour_310 8 rfl ?_
                      refine kw_bipush X dL_hour_312 cb_m9 ?_
                      refine kw_icmp_eq X 381 dL_hour_314 (by decide) (fun q207 => ?_) (fun q207 => ?_)
                      · replace hF := (if_pos q207).symm.trans hF
                        refine kw_iconst X dL_hour_381 ci_0 ?_
                        refine kw_loc (lo' := [(0, .ref h0), (1, .int p2), (2, .int p3), (5, .int b3), (6, .ref q4), (10, .int e70), (11, .int v11_183)]) [0, 1, 2, 3, 4, 6, 7] rfl ?_
                        obtain rfl := si1 hF
                        exact J
                      · replace hF := (if_neg q207).symm.trans hF
                        refine kw_aload_n X dL_hour_317 rfl 0 rfl ?_
                        refine kw_iload X dL_hour_318 8 rfl ?_
                        refine kw_iconst X dL_hour_320 ci_3 ?_
                        obtain ⟨b208, hx208, hF⟩ := ob1_ex hF
                        refine kb_ap X (r := .int b208) (As := [.int b186, .int 3]) (st := []) (cm_umbrella l D cI cC cR h0 h1 t0 t1 a b d ah w47 b186 3 b208 hx208) vl_L_15 yv_X6_umbrella ⟨Nat.le_of_ble_eq_true rfl, Nat.le_of_ble_eq_true rfl⟩ ⟨rfl, rfl⟩ ⟨Nat.le_of_ble_eq_true rfl, Nat.le_of_ble_eq_true rfl⟩ 0 0 rfl bO_0 rfl rfl rfl (Nat.le_of_ble_eq_true rfl) dL_hour_321 ?_
                        refine kw_iconst X dL_hour_324 ci_1 ?_
                        obtain ⟨x210, hx211, hF⟩ := pl1_ex hF
                        have J : KW Γ 2 72 (wj [bO cI cC cR h0 h1 t0 t1 a b d ah w47, [(q4, .inl (cI, 12, .inl w23))], [(q24, .inl (cI, 60, .inl w45))]]) [(0, .ref h0), (1, .int p2), (2, .int p3), (5, .int b3), (6, .ref q4), (10, .int e70), (11, .int v11_183)] 333 [.int x210] := by
                          refine kw_aload X dL_hour_333 4 rfl ?_
                          refine kw_iload X dL_hour_335 6 rfl ?_
                          obtain ⟨a212, hx, hF⟩ := ob1_ex hF
                          obtain ⟨hin, hx⟩ := aget_ex hx
                          refine kb_iald X 1 0 0 rfl rfl rfl hin hx dL_hour_337 ?_
                          refine kw_iconst X dL_hour_338 ci_2 ?_
                          obtain ⟨x214, hx215, hF⟩ := pl1_ex hF
                          have J : KW Γ 2 72 (wj [bO cI cC cR h0 h1 t0 t1 a b d ah w47, [(q4, .inl (cI, 12, .inl w23))], [(q24, .inl (cI, 60, .inl w45))]]) [(0, .ref h0), (1, .int p2), (2, .int p3), (5, .int b3), (6, .ref q4), (10, .int e70), (11, .int v11_183)] 347 [.int x214, .int x210] := by
                            refine kw_icmp_ne X 381 dL_hour_347 (by decide) (fun q216 => ?_) (fun q216 => ?_)
                            · replace hF := (if_neg q216).symm.trans hF
                              refine kw_iconst X dL_hour_381 ci_0 ?_
                              obtain rfl := si1 hF
                              exact J
                            · replace hF := (if_pos q216).symm.trans hF
                              refine kw_aload X dL_hour_350 4 rfl ?_
                              refine kw_iload X dL_hour_352 6 rfl ?_
                              obtain ⟨a217, hx, hF⟩ := ob1_ex hF
                              obtain ⟨hin, hx⟩ := aget_ex hx
                              refine kb_iald X 1 0 0 rfl rfl rfl hin hx dL_hour_354 ?_
                              refine kw_iconst X dL_hour_355 ci_2 ?_
                              refine kw_icmp_lt X 377 dL_hour_356 (by decide) (fun q218 => ?_) (fun q218 => ?_)
                              · replace hF := (if_pos q218).symm.trans hF
                                refine kw_iconst X dL_hour_377 ci_1 ?_
                                refine kw_goto X 382 dL_hour_378 (by decide) ?_
                                obtain rfl := si1 hF
                                exact J
                              · replace hF := (if_neg q218).symm.trans hF
                                refine kw_aload_n X dL_hour_359 rfl 0 rfl ?_
                                refine kw_iload X dL_hour_360 6 rfl ?_
                                refine kw_iload_n X dL_hour_362 rfl 1 rfl ?_
                                refine kw_iload_n X dL_hour_363 rfl 2 rfl ?_
                                obtain ⟨b219, hx219, hF⟩ := ob1_ex hF
                                refine kb_ap X (r := .int b219) (As := [.int v11_183, .int p2, .int p3]) (st := []) (cm_breaksIn l D cI cC cR h0 h1 t0 t1 a b d ah w47 v11_183 p2 p3 Z b219 hx219) vl_L_31 yv_X6_breaksIn ⟨Nat.le_of_ble_eq_true rfl, Nat.le_of_ble_eq_true rfl⟩ ⟨rfl, rfl⟩ ⟨Nat.le_of_ble_eq_true rfl, Nat.le_of_ble_eq_true rfl⟩ 0 0 rfl bO_0 rfl rfl rfl (Nat.le_of_ble_eq_true rfl) dL_hour_364 ?_
                                refine kw_aload X dL_hour_367 4 rfl ?_
                                refine kw_iload X dL_hour_369 6 rfl ?_
                                obtain ⟨a220, hx, hF⟩ := ob1_ex hF
                                obtain ⟨hin, hx⟩ := aget_ex hx
                                refine kb_iald X 1 0 0 rfl rfl rfl hin hx dL_hour_371 ?_
                                refine kw_iconst X dL_hour_372 ci_1 ?_
                                refine kw_isub X dL_hour_373 ?_
                                refine kw_icmp_ne X 381 dL_hour_374 (by decide) (fun q221 => ?_) (fun q221 => ?_)
                                · replace hF := (if_neg q221).symm.trans hF
                                  refine kw_iconst X dL_hour_381 ci_0 ?_
                                  obtain rfl := si1 hF
                                  exact J
                                · replace hF := (if_pos q221).symm.trans hF
                                  refine kw_iconst X dL_hour_377 ci_1 ?_
                                  refine kw_goto X 382 dL_hour_378 (by decide) ?_
                                  obtain rfl := si1 hF
                                  exact J
                          replace hF := hx215
                          refine kw_icmp_ge X 346 dL_hour_339 (by decide) (fun q213 => ?_) (fun q213 => ?_)
                          · replace hF := (if_neg q213).symm.trans hF
                            refine kw_iconst X dL_hour_346 ci_0 ?_
                            obtain rfl := ti1 hF
                            exact J
                          · replace hF := (if_pos q213).symm.trans hF
                            refine kw_iconst X dL_hour_342 ci_1 ?_
                            refine kw_goto X 347 dL_hour_343 (by decide) ?_
                            obtain rfl := ti1 hF
                            exact J
                        replace hF := hx211
                        refine kw_icmp_ne X 332 dL_hour_325 (by decide) (fun q209 => ?_) (fun q209 => ?_)
                        · replace hF := (if_neg q209).symm.trans hF
                          refine kw_iconst X dL_hour_332 ci_0 ?_
                          refine kw_loc (lo' := [(0, .ref h0), (1, .int p2), (2, .int p3), (5, .int b3), (6, .ref q4), (10, .int e70), (11, .int v11_183)]) [0, 1, 2, 3, 4, 6, 7] rfl ?_
                          obtain rfl := ti1 hF
                          exact J
                        · replace hF := (if_pos q209).symm.trans hF
                          refine kw_iconst X dL_hour_328 ci_1 ?_
                          refine kw_goto X 333 dL_hour_329 (by decide) ?_
                          refine kw_loc (lo' := [(0, .ref h0), (1, .int p2), (2, .int p3), (5, .int b3), (6, .ref q4), (10, .int e70), (11, .int v11_183)]) [0, 1, 2, 3, 4, 6, 7] rfl ?_
                          obtain rfl := ti1 hF
                          exact J
            exact hL281 Z _ _ hx
          have hL227 : ∀ (F : Nat) (v9_222 : Int32) (v11_223 : Int32), f_L_hour_L227 Z w45 w47 F v9_222 v11_223 = some (e99) → KW Γ 2 72 (wj [bO cI cC cR h0 h1 t0 t1 a b d ah w47, [(q4, .inl (cI, 12, .inl w23))], [(q24, .inl (cI, 60, .inl w45))]]) [(0, .ref h0), (1, .int p2), (2, .int p3), (5, .int b3), (6, .ref q4), (8, .ref q24), (9, .int v9_222), (10, .int e70), (11, .int v11_223)] 227 [] := by
            intro F
            induction F with
            | zero => intro v9_222 v11_223 hF; exact none_some hF
            | succ F ih227 =>
              intro v9_222 v11_223 hF
              rw [f_L_hour_L227] at hF
              refine kw_iload X dL_hour_227 8 rfl ?_
              refine kw_aload_n X dL_hour_229 rfl 0 rfl ?_
              refine kw_iconst X dL_hour_230 ci_1 ?_
              obtain ⟨b224, hx224, hF⟩ := ob1_ex hF
              refine kb_ap X (r := .int b224) (As := [.int 1]) (st := [.int v11_223]) (cm_count l D cI cC cR h0 h1 t0 t1 a b d ah w47 1 Z b224 hx224) vl_L_9 yv_X6_count ⟨Nat.le_of_ble_eq_true rfl, Nat.le_of_ble_eq_true rfl⟩ ⟨rfl, rfl⟩ ⟨Nat.le_of_ble_eq_true rfl, Nat.le_of_ble_eq_true rfl⟩ 0 0 rfl bO_0 rfl rfl rfl (Nat.le_of_ble_eq_true rfl) dL_hour_231 ?_
              refine kw_icmp_ge X 278 dL_hour_234 (by decide) (fun q225 => ?_) (fun q225 => ?_)
              · replace hF := (if_neg q225).symm.trans hF
                refine kw_loc (lo' := [(0, .ref h0), (1, .int p2), (2, .int p3), (5, .int b3), (6, .ref q4), (9, .int v9_222), (10, .int e70)]) [0, 1, 2, 3, 4, 6, 7] rfl ?_
                obtain rfl := si1 hF
                exact J
              · replace hF := (if_pos q225).symm.trans hF
                refine kw_iload X dL_hour_237 6 rfl ?_
                refine kw_if_eq X 278 dL_hour_239 (by decide) (fun q226 => ?_) (fun q226 => ?_)
                · replace hF := (if_pos q226).symm.trans hF
                  refine kw_loc (lo' := [(0, .ref h0), (1, .int p2), (2, .int p3), (5, .int b3), (6, .ref q4), (9, .int v9_222), (10, .int e70)]) [0, 1, 2, 3, 4, 6, 7] rfl ?_
                  obtain rfl := si1 hF
                  exact J
                · replace hF := (if_neg q226).symm.trans hF
                  refine kw_aload X dL_hour_242 5 rfl ?_
                  refine kw_iload X dL_hour_244 8 rfl ?_
                  obtain ⟨a227, hx, hF⟩ := ob1_ex hF
                  obtain ⟨hin, hx⟩ := aget_ex hx
                  refine kb_iald X 2 0 0 rfl rfl rfl hin hx dL_hour_246 ?_
                  obtain ⟨x232, hx233, hF⟩ := ob1_ex hF
                  have J : KW Γ 2 72 (wj [bO cI cC cR h0 h1 t0 t1 a b d ah w47, [(q4, .inl (cI, 12, .inl w23))], [(q24, .inl (cI, 60, .inl w45))]]) [(0, .ref h0), (1, .int p2), (2, .int p3), (5, .int b3), (6, .ref q4), (8, .ref q24), (10, .int e70), (11, .int v11_223)] 270 [.int x232] := by
                    refine kw_istore (lo' := [(0, .ref h0), (1, .int p2), (2, .int p3), (5, .int b3), (6, .ref q4), (8, .ref q24), (9, .int x232), (10, .int e70), (11, .int v11_223)]) X dL_hour_270 (by decide) [1, 2, 3, 4, 5, 6, 0, 7, 8] rfl ?_
                    refine kw_iinc (lo' := [(0, .ref h0), (1, .int p2), (2, .int p3), (5, .int b3), (6, .ref q4), (8, .ref q24), (9, .int x232), (10, .int e70), (11, .int (v11_223 + 1))]) X dL_hour_272 8 rfl (congrArg (fun w => v11_223 + w) ci_1) (by decide) [1, 2, 3, 4, 5, 6, 7, 8, 0] rfl ?_
                    refine kw_goto X 227 dL_hour_275 (by decide) ?_
                    exact ih227 _ _ hF
                  replace hF := hx233
                  refine kw_if_lt X 265 dL_hour_247 (by decide) (fun q228 => ?_) (fun q228 => ?_)
                  · replace hF := (if_pos q228).symm.trans hF
                    refine kw_iconst X dL_hour_265 ci_1 ?_
                    refine kw_goto X 270 dL_hour_266 (by decide) ?_
                    refine kw_loc (lo' := [(0, .ref h0), (1, .int p2), (2, .int p3), (5, .int b3), (6, .ref q4), (8, .ref q24), (10, .int e70), (11, .int v11_223)]) [0, 1, 2, 3, 4, 5, 7, 8] rfl ?_
                    obtain rfl := si1 hF
                    exact J
                  · replace hF := (if_neg q228).symm.trans hF
                    refine kw_aload_n X dL_hour_250 rfl 0 rfl ?_
                    refine kw_iload X dL_hour_251 8 rfl ?_
                    refine kw_iconst X dL_hour_253 ci_2 ?_
                    obtain ⟨b234, hx234, hF⟩ := ob1_ex hF
                    refine kb_ap X (r := .int b234) (As := [.int v11_223, .int 2]) (st := []) (cm_umbrella l D cI cC cR h0 h1 t0 t1 a b d ah w47 v11_223 2 b234 hx234) vl_L_15 yv_X6_umbrella ⟨Nat.le_of_ble_eq_true rfl, Nat.le_of_ble_eq_true rfl⟩ ⟨rfl, rfl⟩ ⟨Nat.le_of_ble_eq_true rfl, Nat.le_of_ble_eq_true rfl⟩ 0 0 rfl bO_0 rfl rfl rfl (Nat.le_of_ble_eq_true rfl) dL_hour_254 ?_
                    refine kw_aload X dL_hour_257 5 rfl ?_
                    refine kw_iload X dL_hour_259 8 rfl ?_
                    obtain ⟨a235, hx, hF⟩ := ob1_ex hF
                    obtain ⟨hin, hx⟩ := aget_ex hx
                    refine kb_iald X 2 0 0 rfl rfl rfl hin hx dL_hour_261 ?_
                    refine kw_icmp_ne X 269 dL_hour_262 (by decide) (fun q236 => ?_) (fun q236 => ?_)
                    · replace hF := (if_neg q236).symm.trans hF
                      refine kw_iconst X dL_hour_269 ci_0 ?_
                      refine kw_loc (lo' := [(0, .ref h0), (1, .int p2), (2, .int p3), (5, .int b3), (6, .ref q4), (8, .ref q24), (10, .int e70), (11, .int v11_223)]) [0, 1, 2, 3, 4, 5, 7, 8] rfl ?_
                      obtain rfl := si1 hF
                      exact J
                    · replace hF := (if_pos q236).symm.trans hF
                      refine kw_iconst X dL_hour_265 ci_1 ?_
                      refine kw_goto X 270 dL_hour_266 (by decide) ?_
                      refine kw_loc (lo' := [(0, .ref h0), (1, .int p2), (2, .int p3), (5, .int b3), (6, .ref q4), (8, .ref q24), (10, .int e70), (11, .int v11_223)]) [0, 1, 2, 3, 4, 5, 7, 8] rfl ?_
                      obtain rfl := si1 hF
                      exact J
          exact hL227 Z _ _ hx
        have hL186 : ∀ (F : Nat) (v10_237 : Int32) (v11_238 : Int32), f_L_hour_L186 Z w47 F v10_237 v11_238 = some (e70) → KW Γ 2 72 (wj [bO cI cC cR h0 h1 t0 t1 a b d ah w47, [(q4, .inl (cI, 12, .inl w23))], [(q24, .inl (cI, 60, .inl w45))]]) [(0, .ref h0), (1, .int p2), (2, .int p3), (5, .int b3), (6, .ref q4), (8, .ref q24), (9, .int x56), (10, .int v10_237), (11, .int v11_238)] 186 [] := by
          intro F
          induction F with
          | zero => intro v10_237 v11_238 hF; exact none_some hF
          | succ F ih186 =>
            intro v10_237 v11_238 hF
            rw [f_L_hour_L186] at hF
            refine kw_iload X dL_hour_186 8 rfl ?_
            refine kw_bipush X dL_hour_188 cb_8 ?_
            refine kw_icmp_ge X 224 dL_hour_190 (by decide) (fun q239 => ?_) (fun q239 => ?_)
            · replace hF := (if_neg q239).symm.trans hF
              refine kw_loc (lo' := [(0, .ref h0), (1, .int p2), (2, .int p3), (5, .int b3), (6, .ref q4), (8, .ref q24), (9, .int x56), (10, .int v10_237)]) [0, 1, 2, 3, 4, 5, 6, 7] rfl ?_
              obtain rfl := si1 hF
              exact J
            · replace hF := (if_pos q239).symm.trans hF
              refine kw_iload X dL_hour_193 7 rfl ?_
              refine kw_aload_n X dL_hour_195 rfl 0 rfl ?_
              refine kw_iload X dL_hour_196 8 rfl ?_
              refine kw_iconst X dL_hour_198 ci_3 ?_
              obtain ⟨b240, hx240, hF⟩ := ob1_ex hF
              refine kb_ap X (r := .int b240) (As := [.int v11_238, .int 3]) (st := [.int v10_237]) (cm_stand l D cI cC cR h0 h1 t0 t1 a b d ah w47 v11_238 3 Z b240 hx240) vl_L_24 yv_X6_stand ⟨Nat.le_of_ble_eq_true rfl, Nat.le_of_ble_eq_true rfl⟩ ⟨rfl, rfl⟩ ⟨Nat.le_of_ble_eq_true rfl, Nat.le_of_ble_eq_true rfl⟩ 0 0 rfl bO_0 rfl rfl rfl (Nat.le_of_ble_eq_true rfl) dL_hour_199 ?_
              refine kw_bipush X dL_hour_202 cb_m9 ?_
              obtain ⟨x242, hx243, hF⟩ := pl1_ex hF
              have J : KW Γ 2 72 (wj [bO cI cC cR h0 h1 t0 t1 a b d ah w47, [(q4, .inl (cI, 12, .inl w23))], [(q24, .inl (cI, 60, .inl w45))]]) [(0, .ref h0), (1, .int p2), (2, .int p3), (5, .int b3), (6, .ref q4), (8, .ref q24), (9, .int x56), (11, .int v11_238)] 215 [.int x242, .int v10_237] := by
                refine kw_ior X dL_hour_215 ?_
                refine kw_istore (lo' := [(0, .ref h0), (1, .int p2), (2, .int p3), (5, .int b3), (6, .ref q4), (8, .ref q24), (9, .int x56), (10, .int (v10_237 ||| x242)), (11, .int v11_238)]) X dL_hour_216 (by decide) [1, 2, 3, 4, 5, 6, 7, 0, 8] rfl ?_
                refine kw_iinc (lo' := [(0, .ref h0), (1, .int p2), (2, .int p3), (5, .int b3), (6, .ref q4), (8, .ref q24), (9, .int x56), (10, .int (v10_237 ||| x242)), (11, .int (v11_238 + 1))]) X dL_hour_218 8 rfl (congrArg (fun w => v11_238 + w) ci_1) (by decide) [1, 2, 3, 4, 5, 6, 7, 8, 0] rfl ?_
                refine kw_goto X 186 dL_hour_221 (by decide) ?_
                exact ih186 _ _ hF
              replace hF := hx243
              refine kw_icmp_ne X 214 dL_hour_204 (by decide) (fun q241 => ?_) (fun q241 => ?_)
              · replace hF := (if_neg q241).symm.trans hF
                refine kw_iconst X dL_hour_214 ci_0 ?_
                refine kw_loc (lo' := [(0, .ref h0), (1, .int p2), (2, .int p3), (5, .int b3), (6, .ref q4), (8, .ref q24), (9, .int x56), (11, .int v11_238)]) [0, 1, 2, 3, 4, 5, 6, 8] rfl ?_
                obtain rfl := ti1 hF
                exact J
              · replace hF := (if_pos q241).symm.trans hF
                refine kw_iconst X dL_hour_207 ci_1 ?_
                refine kw_iload X dL_hour_208 8 rfl ?_
                refine kw_ishl X dL_hour_210 ?_
                refine kw_goto X 215 dL_hour_211 (by decide) ?_
                refine kw_loc (lo' := [(0, .ref h0), (1, .int p2), (2, .int p3), (5, .int b3), (6, .ref q4), (8, .ref q24), (9, .int x56), (11, .int v11_238)]) [0, 1, 2, 3, 4, 5, 6, 8] rfl ?_
                obtain rfl := ti1 hF
                exact J
        exact hL186 Z _ _ hx
      replace hF := hx57
      refine kw_icmp_ne X 177 dL_hour_137 (by decide) (fun q48 => ?_) (fun q48 => ?_)
      · replace hF := (if_neg q48).symm.trans hF
        refine kw_iconst X dL_hour_177 ci_0 ?_
        refine kw_loc (lo' := [(0, .ref h0), (1, .int p2), (2, .int p3), (5, .int b3), (6, .ref q4), (8, .ref q24)]) [0, 1, 2, 5, 6, 8] rfl ?_
        obtain rfl := si1 hF
        exact J
      · replace hF := (if_pos q48).symm.trans hF
        refine kw_aload_n X dL_hour_140 rfl 0 rfl ?_
        refine kw_iconst X dL_hour_141 ci_0 ?_
        obtain ⟨b244, hx244, hF⟩ := ob1_ex hF
        refine kb_ap X (r := .int b244) (As := [.int 0]) (st := []) (cm_count l D cI cC cR h0 h1 t0 t1 a b d ah w47 0 Z b244 hx244) vl_L_9 yv_X6_count ⟨Nat.le_of_ble_eq_true rfl, Nat.le_of_ble_eq_true rfl⟩ ⟨rfl, rfl⟩ ⟨Nat.le_of_ble_eq_true rfl, Nat.le_of_ble_eq_true rfl⟩ 0 0 rfl bO_0 rfl rfl rfl (Nat.le_of_ble_eq_true rfl) dL_hour_142 ?_
        refine kw_iload X dL_hour_145 4 rfl ?_
        refine kw_iconst X dL_hour_147 ci_1 ?_
        refine kw_iadd X dL_hour_148 ?_
        refine kw_icmp_ne X 177 dL_hour_149 (by decide) (fun q245 => ?_) (fun q245 => ?_)
        · replace hF := (if_neg q245).symm.trans hF
          refine kw_iconst X dL_hour_177 ci_0 ?_
          refine kw_loc (lo' := [(0, .ref h0), (1, .int p2), (2, .int p3), (5, .int b3), (6, .ref q4), (8, .ref q24)]) [0, 1, 2, 5, 6, 8] rfl ?_
          obtain rfl := si1 hF
          exact J
        · replace hF := (if_pos q245).symm.trans hF
          refine kw_aload_n X dL_hour_152 rfl 0 rfl ?_
          refine kw_bipush X dL_hour_153 cb_13 ?_
          obtain ⟨b246, hx246, hF⟩ := ob1_ex hF
          refine kb_ap X (r := .int b246) (As := [.int 13]) (st := []) (cm_count l D cI cC cR h0 h1 t0 t1 a b d ah w47 13 Z b246 hx246) vl_L_9 yv_X6_count ⟨Nat.le_of_ble_eq_true rfl, Nat.le_of_ble_eq_true rfl⟩ ⟨rfl, rfl⟩ ⟨Nat.le_of_ble_eq_true rfl, Nat.le_of_ble_eq_true rfl⟩ 0 0 rfl bO_0 rfl rfl rfl (Nat.le_of_ble_eq_true rfl) dL_hour_155 ?_
          refine kw_iload_n X dL_hour_158 rfl 3 rfl ?_
          refine kw_iload_n X dL_hour_159 rfl 1 rfl ?_
          refine kw_iconst X dL_hour_160 ci_4 ?_
          obtain ⟨x248, hx249, hF⟩ := pl1_ex hF
          have J : KW Γ 2 72 (wj [bO cI cC cR h0 h1 t0 t1 a b d ah w47, [(q4, .inl (cI, 12, .inl w23))], [(q24, .inl (cI, 60, .inl w45))]]) [(0, .ref h0), (1, .int p2), (2, .int p3), (5, .int b3), (6, .ref q4), (8, .ref q24)] 169 [.int x248, .int b1, .int b246] := by
            refine kw_iadd X dL_hour_169 ?_
            refine kw_icmp_ne X 177 dL_hour_170 (by decide) (fun q250 => ?_) (fun q250 => ?_)
            · replace hF := (if_neg q250).symm.trans hF
              refine kw_iconst X dL_hour_177 ci_0 ?_
              obtain rfl := si1 hF
              exact J
            · replace hF := (if_pos q250).symm.trans hF
              refine kw_iconst X dL_hour_173 ci_1 ?_
              refine kw_goto X 178 dL_hour_174 (by decide) ?_
              obtain rfl := si1 hF
              exact J
          replace hF := hx249
          refine kw_icmp_le X 168 dL_hour_161 (by decide) (fun q247 => ?_) (fun q247 => ?_)
          · replace hF := (if_neg q247).symm.trans hF
            refine kw_iconst X dL_hour_168 ci_0 ?_
            refine kw_loc (lo' := [(0, .ref h0), (1, .int p2), (2, .int p3), (5, .int b3), (6, .ref q4), (8, .ref q24)]) [0, 1, 2, 5, 6, 8] rfl ?_
            obtain rfl := ti1 hF
            exact J
          · replace hF := (if_pos q247).symm.trans hF
            refine kw_iconst X dL_hour_164 ci_1 ?_
            refine kw_goto X 169 dL_hour_165 (by decide) ?_
            refine kw_loc (lo' := [(0, .ref h0), (1, .int p2), (2, .int p3), (5, .int b3), (6, .ref q4), (8, .ref q24)]) [0, 1, 2, 5, 6, 8] rfl ?_
            obtain rfl := ti1 hF
            exact J
    have hL86 : ∀ (F : Nat) (v9_251 : Int32) (w252 : Nat → Int32), f_L_hour_L86 Z v F v9_251 w252 = some (w45) → KW Γ 2 72 (wj [bO cI cC cR h0 h1 t0 t1 a b d ah v, [(q4, .inl (cI, 12, .inl w23))], [(q24, .inl (cI, 60, .inl w252))]]) [(0, .ref h0), (1, .int p2), (2, .int p3), (3, .int b1), (4, .int b2), (5, .int b3), (6, .ref q4), (7, .int e22), (8, .ref q24), (9, .int v9_251)] 86 [] := by
      intro F
      induction F with
      | zero => intro v9_251 w252 hF; exact none_some hF
      | succ F ih86 =>
        intro v9_251 w252 hF
        rw [f_L_hour_L86] at hF
        refine kw_iload X dL_hour_86 9 rfl ?_
        refine kw_aload_n X dL_hour_88 rfl 0 rfl ?_
        refine kw_iconst X dL_hour_89 ci_1 ?_
        obtain ⟨b253, hx253, hF⟩ := ob1_ex hF
        refine kb_ap X (r := .int b253) (As := [.int 1]) (st := [.int v9_251]) (cm_count l D cI cC cR h0 h1 t0 t1 a b d ah v 1 Z b253 hx253) vl_L_9 yv_X6_count ⟨Nat.le_of_ble_eq_true rfl, Nat.le_of_ble_eq_true rfl⟩ ⟨rfl, rfl⟩ ⟨Nat.le_of_ble_eq_true rfl, Nat.le_of_ble_eq_true rfl⟩ 0 0 rfl bO_0 rfl rfl rfl (Nat.le_of_ble_eq_true rfl) dL_hour_90 ?_
        refine kw_icmp_ge X 129 dL_hour_93 (by decide) (fun q254 => ?_) (fun q254 => ?_)
        · replace hF := (if_neg q254).symm.trans hF
          refine kw_loc (lo' := [(0, .ref h0), (1, .int p2), (2, .int p3), (3, .int b1), (4, .int b2), (5, .int b3), (6, .ref q4), (7, .int e22), (8, .ref q24)]) [0, 1, 2, 3, 4, 5, 6, 7, 8] rfl ?_
          obtain rfl := si1 hF
          exact J
        · replace hF := (if_pos q254).symm.trans hF
          refine kw_aload X dL_hour_96 8 rfl ?_
          refine kw_iload X dL_hour_98 9 rfl ?_
          refine kw_aload_n X dL_hour_100 rfl 0 rfl ?_
          refine kw_iload X dL_hour_101 9 rfl ?_
          refine kw_iconst X dL_hour_103 ci_0 ?_
          obtain ⟨b255, hx255, hF⟩ := ob1_ex hF
          refine kb_ap X (r := .int b255) (As := [.int v9_251, .int 0]) (st := [.int v9_251, .ref q24]) (cm_umbrella l D cI cC cR h0 h1 t0 t1 a b d ah v v9_251 0 b255 hx255) vl_L_15 yv_X6_umbrella ⟨Nat.le_of_ble_eq_true rfl, Nat.le_of_ble_eq_true rfl⟩ ⟨rfl, rfl⟩ ⟨Nat.le_of_ble_eq_true rfl, Nat.le_of_ble_eq_true rfl⟩ 0 0 rfl bO_0 rfl rfl rfl (Nat.le_of_ble_eq_true rfl) dL_hour_104 ?_
          refine kw_iconst X dL_hour_107 ci_1 ?_
          obtain ⟨x258, hx259, hF⟩ := ob1_ex hF
          have J : KW Γ 2 72 (wj [bO cI cC cR h0 h1 t0 t1 a b d ah v, [(q4, .inl (cI, 12, .inl w23))], [(q24, .inl (cI, 60, .inl w252))]]) [(0, .ref h0), (1, .int p2), (2, .int p3), (3, .int b1), (4, .int b2), (5, .int b3), (6, .ref q4), (7, .int e22), (8, .ref q24), (9, .int v9_251)] 122 [.int x258, .int v9_251, .ref q24] := by
            obtain ⟨m260, hx, hF⟩ := ob1_ex hF
            obtain ⟨hin, hx⟩ := aset_ex hx
            refine kb_iast X (bs' := [bO cI cC cR h0 h1 t0 t1 a b d ah v, [(q4, .inl (cI, 12, .inl w23))], [(q24, .inl (cI, 60, .inl m260))]]) E 2 0 0 rfl rfl rfl hin (by rw [hx]; rfl) dL_hour_122 ?_
            refine kw_iinc (lo' := [(0, .ref h0), (1, .int p2), (2, .int p3), (3, .int b1), (4, .int b2), (5, .int b3), (6, .ref q4), (7, .int e22), (8, .ref q24), (9, .int (v9_251 + 1))]) X dL_hour_123 9 rfl (congrArg (fun w => v9_251 + w) ci_1) (by decide) [1, 2, 3, 4, 5, 6, 7, 8, 9, 0] rfl ?_
            refine kw_goto X 86 dL_hour_126 (by decide) ?_
            exact ih86 _ _ hF
          replace hF := hx259
          refine kw_icmp_ne X 115 dL_hour_108 (by decide) (fun q256 => ?_) (fun q256 => ?_)
          · replace hF := (if_neg q256).symm.trans hF
            refine kw_aload_n X dL_hour_115 rfl 0 rfl ?_
            refine kw_iload X dL_hour_116 9 rfl ?_
            refine kw_iconst X dL_hour_118 ci_2 ?_
            obtain ⟨b261, hx261, hF⟩ := ob1_ex hF
            refine kb_ap X (r := .int b261) (As := [.int v9_251, .int 2]) (st := [.int v9_251, .ref q24]) (cm_umbrella l D cI cC cR h0 h1 t0 t1 a b d ah v v9_251 2 b261 hx261) vl_L_15 yv_X6_umbrella ⟨Nat.le_of_ble_eq_true rfl, Nat.le_of_ble_eq_true rfl⟩ ⟨rfl, rfl⟩ ⟨Nat.le_of_ble_eq_true rfl, Nat.le_of_ble_eq_true rfl⟩ 0 0 rfl bO_0 rfl rfl rfl (Nat.le_of_ble_eq_true rfl) dL_hour_119 ?_
            obtain rfl := si1 hF
            exact J
          · replace hF := (if_pos q256).symm.trans hF
            refine kw_iconst X dL_hour_111 ci_m1 ?_
            refine kw_goto X 122 dL_hour_112 (by decide) ?_
            obtain rfl := si1 hF
            exact J
    exact hL86 Z _ _ hx
  have hL32 : ∀ (F : Nat) (v7_262 : Int32) (v8_263 : Int32) (w264 : Nat → Int32), f_L_hour_L32 Z v p2 p3 F v7_262 v8_263 w264 = some (e22, w23) → KW Γ 1 12 (wj [bO cI cC cR h0 h1 t0 t1 a b d ah v, [(q4, .inl (cI, 12, .inl w264))]]) [(0, .ref h0), (1, .int p2), (2, .int p3), (3, .int b1), (4, .int b2), (5, .int b3), (6, .ref q4), (7, .int v7_262), (8, .int v8_263)] 32 [] := by
    intro F
    induction F with
    | zero => intro v7_262 v8_263 w264 hF; exact none_some hF
    | succ F ih32 =>
      intro v7_262 v8_263 w264 hF
      rw [f_L_hour_L32] at hF
      refine kw_iload X dL_hour_32 8 rfl ?_
      refine kw_bipush X dL_hour_34 cb_12 ?_
      refine kw_icmp_ge X 77 dL_hour_36 (by decide) (fun q265 => ?_) (fun q265 => ?_)
      · replace hF := (if_neg q265).symm.trans hF
        refine kw_loc (lo' := [(0, .ref h0), (1, .int p2), (2, .int p3), (3, .int b1), (4, .int b2), (5, .int b3), (6, .ref q4), (7, .int v7_262)]) [0, 1, 2, 3, 4, 5, 6, 7] rfl ?_
        obtain ⟨rfl, rfl⟩ := si2 hF
        exact J
      · replace hF := (if_pos q265).symm.trans hF
        refine kw_aload X dL_hour_39 6 rfl ?_
        refine kw_iload X dL_hour_41 8 rfl ?_
        refine kw_aload_n X dL_hour_43 rfl 0 rfl ?_
        refine kw_iload X dL_hour_44 8 rfl ?_
        refine kw_iload_n X dL_hour_46 rfl 1 rfl ?_
        refine kw_iload_n X dL_hour_47 rfl 2 rfl ?_
        obtain ⟨b266, hx266, hF⟩ := ob1_ex hF
        refine kb_ap X (r := .int b266) (As := [.int v8_263, .int p2, .int p3]) (st := [.int v8_263, .ref q4]) (cm_breaksIn l D cI cC cR h0 h1 t0 t1 a b d ah v v8_263 p2 p3 Z b266 hx266) vl_L_31 yv_X6_breaksIn ⟨Nat.le_of_ble_eq_true rfl, Nat.le_of_ble_eq_true rfl⟩ ⟨rfl, rfl⟩ ⟨Nat.le_of_ble_eq_true rfl, Nat.le_of_ble_eq_true rfl⟩ 0 0 rfl bO_0 rfl rfl rfl (Nat.le_of_ble_eq_true rfl) dL_hour_48 ?_
        obtain ⟨m267, hx, hF⟩ := ob1_ex hF
        obtain ⟨hin, hx⟩ := aset_ex hx
        refine kb_iast X (bs' := [bO cI cC cR h0 h1 t0 t1 a b d ah v, [(q4, .inl (cI, 12, .inl m267))]]) E 1 0 0 rfl rfl rfl hin (by rw [hx]; rfl) dL_hour_51 ?_
        refine kw_iload X dL_hour_52 7 rfl ?_
        refine kw_aload X dL_hour_54 6 rfl ?_
        refine kw_iload X dL_hour_56 8 rfl ?_
        obtain ⟨a268, hx, hF⟩ := ob1_ex hF
        obtain ⟨hin, hx⟩ := aget_ex hx
        refine kb_iald X 1 0 0 rfl rfl rfl hin hx dL_hour_58 ?_
        refine kw_iconst X dL_hour_59 ci_1 ?_
        obtain ⟨x270, hx271, hF⟩ := pl1_ex hF
        have J : KW Γ 1 12 (wj [bO cI cC cR h0 h1 t0 t1 a b d ah v, [(q4, .inl (cI, 12, .inl m267))]]) [(0, .ref h0), (1, .int p2), (2, .int p3), (3, .int b1), (4, .int b2), (5, .int b3), (6, .ref q4), (8, .int v8_263)] 68 [.int x270, .int v7_262] := by
          refine kw_iadd X dL_hour_68 ?_
          refine kw_istore (lo' := [(0, .ref h0), (1, .int p2), (2, .int p3), (3, .int b1), (4, .int b2), (5, .int b3), (6, .ref q4), (7, .int (v7_262 + x270)), (8, .int v8_263)]) X dL_hour_69 (by decide) [1, 2, 3, 4, 5, 6, 7, 0, 8] rfl ?_
          refine kw_iinc (lo' := [(0, .ref h0), (1, .int p2), (2, .int p3), (3, .int b1), (4, .int b2), (5, .int b3), (6, .ref q4), (7, .int (v7_262 + x270)), (8, .int (v8_263 + 1))]) X dL_hour_71 8 rfl (congrArg (fun w => v8_263 + w) ci_1) (by decide) [1, 2, 3, 4, 5, 6, 7, 8, 0] rfl ?_
          refine kw_goto X 32 dL_hour_74 (by decide) ?_
          exact ih32 _ _ _ hF
        replace hF := hx271
        refine kw_icmp_ne X 67 dL_hour_60 (by decide) (fun q269 => ?_) (fun q269 => ?_)
        · replace hF := (if_neg q269).symm.trans hF
          refine kw_iconst X dL_hour_67 ci_0 ?_
          refine kw_loc (lo' := [(0, .ref h0), (1, .int p2), (2, .int p3), (3, .int b1), (4, .int b2), (5, .int b3), (6, .ref q4), (8, .int v8_263)]) [0, 1, 2, 3, 4, 5, 6, 8] rfl ?_
          obtain rfl := ti1 hF
          exact J
        · replace hF := (if_pos q269).symm.trans hF
          refine kw_iconst X dL_hour_63 ci_1 ?_
          refine kw_goto X 68 dL_hour_64 (by decide) ?_
          refine kw_loc (lo' := [(0, .ref h0), (1, .int p2), (2, .int p3), (3, .int b1), (4, .int b2), (5, .int b3), (6, .ref q4), (8, .int v8_263)]) [0, 1, 2, 3, 4, 5, 6, 8] rfl ?_
          obtain rfl := ti1 hF
          exact J
  exact hL32 Z _ _ _ hx
