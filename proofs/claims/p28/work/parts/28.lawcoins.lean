noncomputable def f_L_coins_L9 (Z : Nat) (v : OV) : Nat → Int32 → Int32 → Int32 → Int32 → Option (Int32)
  | 0, _, _, _, _ => none
  | F + 1, v1_302, v2_303, v3_304, v4_305 => (if v4_305 < 12 then (ob1 (m_person Z v v4_305 1) (fun (b318 : Int32) => (ob1 (m_person Z v v4_305 0) (fun (b319 : Int32) => (ob1 (m_person Z v v4_305 5) (fun (b320 : Int32) => (pl1 (if b318 = (-9) then 0 else 1) (fun (x322 : Int32) => (ob1 (m_feeIn Z v v4_305 0 0) (fun (b324 : Int32) => (ob1 (m_person Z v v4_305 0) (fun (b325 : Int32) => (if b325 < 0 then (some (0)) else (if b318 = (-9) then (pl1 (if b318 = (-9) then 1 else 0) (fun (x329 : Int32) => (pl1 (if b324 = (-2) then 1 else 0) (fun (x332 : Int32) => (if x329 = x332 then (if b318 = (-9) then (ob1 (m_person Z v v4_305 2) (fun (b362 : Int32) => (if b362 = 0 then (ob1 (m_person Z v v4_305 3) (fun (b364 : Int32) => (if b364 = 0 then (if 10 < b324 then (some (0)) else (if b318 = (-9) then (f_L_coins_L9 Z v F (v1_302 + b319) (v2_303 + b320) (v3_304 + x322) (v4_305 + 1)) else (ob1 (m_person Z v v4_305 2) (fun (b368 : Int32) => (ob1 (m_count Z v 14) (fun (b369 : Int32) => (ob1 (m_person Z v v4_305 3) (fun (b370 : Int32) => (ob1 (if 10 < ((b368 * b369) + (4 * b370)) then (some 10) else (ob1 (m_person Z v v4_305 2) (fun (b389 : Int32) => (ob1 (m_count Z v 14) (fun (b390 : Int32) => (ob1 (m_person Z v v4_305 3) (fun (b391 : Int32) => (some ((b389 * b390) + (4 * b391)))))))))) (fun (x375 : Int32) => (if b324 = x375 then (ob1 (m_feeIn Z v v4_305 7 4) (fun (b378 : Int32) => (if b378 < b324 then (some (0)) else (ob1 (m_breaksIn Z v v4_305 3 1) (fun (b380 : Int32) => (pl1 (if b380 = 0 then 1 else 0) (fun (x382 : Int32) => (ob1 (m_umbrella v b318 3) (fun (b384 : Int32) => (pl1 (if b384 = 1 then 1 else 0) (fun (x386 : Int32) => (if x382 = x386 then (f_L_coins_L9 Z v F (v1_302 + b319) (v2_303 + b320) (v3_304 + x322) (v4_305 + 1)) else (some (0)))))))))))))) else (some (0))))))))))))) else (some (0))))) else (some (0))))) else (if 10 < b324 then (some (0)) else (if b318 = (-9) then (f_L_coins_L9 Z v F (v1_302 + b319) (v2_303 + b320) (v3_304 + x322) (v4_305 + 1)) else (ob1 (m_person Z v v4_305 2) (fun (b338 : Int32) => (ob1 (m_count Z v 14) (fun (b339 : Int32) => (ob1 (m_person Z v v4_305 3) (fun (b340 : Int32) => (ob1 (if 10 < ((b338 * b339) + (4 * b340)) then (some 10) else (ob1 (m_person Z v v4_305 2) (fun (b359 : Int32) => (ob1 (m_count Z v 14) (fun (b360 : Int32) => (ob1 (m_person Z v v4_305 3) (fun (b361 : Int32) => (some ((b359 * b360) + (4 * b361)))))))))) (fun (x345 : Int32) => (if b324 = x345 then (ob1 (m_feeIn Z v v4_305 7 4) (fun (b348 : Int32) => (if b348 < b324 then (some (0)) else (ob1 (m_breaksIn Z v v4_305 3 1) (fun (b350 : Int32) => (pl1 (if b350 = 0 then 1 else 0) (fun (x352 : Int32) => (ob1 (m_umbrella v b318 3) (fun (b354 : Int32) => (pl1 (if b354 = 1 then 1 else 0) (fun (x356 : Int32) => (if x352 = x356 then (f_L_coins_L9 Z v F (v1_302 + b319) (v2_303 + b320) (v3_304 + x322) (v4_305 + 1)) else (some (0)))))))))))))) else (some (0)))))))))))))) else (some (0))))))) else (ob1 (m_umbrella v b318 0) (fun (b392 : Int32) => (if b392 = 1 then (ob1 (m_umbrella v b318 1) (fun (b394 : Int32) => (if b394 = v4_305 then (pl1 (if b318 = (-9) then 1 else 0) (fun (x397 : Int32) => (pl1 (if b324 = (-2) then 1 else 0) (fun (x400 : Int32) => (if x397 = x400 then (if b318 = (-9) then (ob1 (m_person Z v v4_305 2) (fun (b430 : Int32) => (if b430 = 0 then (ob1 (m_person Z v v4_305 3) (fun (b432 : Int32) => (if b432 = 0 then (if 10 < b324 then (some (0)) else (if b318 = (-9) then (f_L_coins_L9 Z v F (v1_302 + b319) (v2_303 + b320) (v3_304 + x322) (v4_305 + 1)) else (ob1 (m_person Z v v4_305 2) (fun (b436 : Int32) => (ob1 (m_count Z v 14) (fun (b437 : Int32) => (ob1 (m_person Z v v4_305 3) (fun (b438 : Int32) => (ob1 (if 10 < ((b436 * b437) + (4 * b438)) then (some 10) else (ob1 (m_person Z v v4_305 2) (fun (b457 : Int32) => (ob1 (m_count Z v 14) (fun (b458 : Int32) => (ob1 (m_person Z v v4_305 3) (fun (b459 : Int32) => (some ((b457 * b458) + (4 * b459)))))))))) (fun (x443 : Int32) => (if b324 = x443 then (ob1 (m_feeIn Z v v4_305 7 4) (fun (b446 : Int32) => (if b446 < b324 then (some (0)) else (ob1 (m_breaksIn Z v v4_305 3 1) (fun (b448 : Int32) => (pl1 (if b448 = 0 then 1 else 0) (fun (x450 : Int32) => (ob1 (m_umbrella v b318 3) (fun (b452 : Int32) => (pl1 (if b452 = 1 then 1 else 0) (fun (x454 : Int32) => (if x450 = x454 then (f_L_coins_L9 Z v F (v1_302 + b319) (v2_303 + b320) (v3_304 + x322) (v4_305 + 1)) else (some (0)))))))))))))) else (some (0))))))))))))) else (some (0))))) else (some (0))))) else (if 10 < b324 then (some (0)) else (if b318 = (-9) then (f_L_coins_L9 Z v F (v1_302 + b319) (v2_303 + b320) (v3_304 + x322) (v4_305 + 1)) else (ob1 (m_person Z v v4_305 2) (fun (b406 : Int32) => (ob1 (m_count Z v 14) (fun (b407 : Int32) => (ob1 (m_person Z v v4_305 3) (fun (b408 : Int32) => (ob1 (if 10 < ((b406 * b407) + (4 * b408)) then (some 10) else (ob1 (m_person Z v v4_305 2) (fun (b427 : Int32) => (ob1 (m_count Z v 14) (fun (b428 : Int32) => (ob1 (m_person Z v v4_305 3) (fun (b429 : Int32) => (some ((b427 * b428) + (4 * b429)))))))))) (fun (x413 : Int32) => (if b324 = x413 then (ob1 (m_feeIn Z v v4_305 7 4) (fun (b416 : Int32) => (if b416 < b324 then (some (0)) else (ob1 (m_breaksIn Z v v4_305 3 1) (fun (b418 : Int32) => (pl1 (if b418 = 0 then 1 else 0) (fun (x420 : Int32) => (ob1 (m_umbrella v b318 3) (fun (b422 : Int32) => (pl1 (if b422 = 1 then 1 else 0) (fun (x424 : Int32) => (if x420 = x424 then (f_L_coins_L9 Z v F (v1_302 + b319) (v2_303 + b320) (v3_304 + x322) (v4_305 + 1)) else (some (0)))))))))))))) else (some (0)))))))))))))) else (some (0))))))) else (some (0))))) else (some (0))))))))))))))))))) else (ob1 (m_count Z v 9) (fun (b307 : Int32) => (if b307 = v1_302 then (ob1 (m_count Z v 11) (fun (b309 : Int32) => (if b309 = v2_303 then (ob1 (m_count Z v 3) (fun (b311 : Int32) => (if b311 = v3_304 then (ob1 (m_count Z v 8) (fun (b313 : Int32) => (ob1 (m_count Z v 10) (fun (b314 : Int32) => (if ((b313 + v1_302) + b314) = 580 then (ob1 (m_count Z v 8) (fun (b316 : Int32) => (if b316 < (10 * v3_304) then (some (0)) else (some (1))))) else (some (0))))))) else (some (0))))) else (some (0))))) else (some (0))))))
noncomputable def f_L_coins (Z : Nat) (v : OV) : Option (Int32) :=
  (f_L_coins_L9 Z v Z 0 0 0 0)
abbrev rm_L_coins : Room := { frames := 5, cells := 0, slots := 0, locals := 115 }
set_option maxHeartbeats 8000000 in
set_option maxRecDepth 100000 in
theorem c_L_coins (l : Launch) (D : va_G) (cI cC cR : ClassId) (h0 h1 t0 t1 : Nat) (a b d ah : Nat → Nat) (v : OV) (Z : Nat) (r : Int32) (hF : f_L_coins Z v = some r) : MEn l yL_coins cL_coins 7 (some .boolean) rm_L_coins D (TY cI cC cR) [.ref h0] (bO cI cC cR h0 h1 t0 t1 a b d ah v) (bO cI cC cR h0 h1 t0 t1 a b d ah v) (some (.int r)) 0 0 := by
  refine me_en pn_L (Nat.le_of_ble_eq_true rfl) rfl (fun Γ X E hret => ?_)
  refine kb_one ?_
  unfold f_L_coins at hF
  refine kw_iconst X dL_coins_0 ci_0 ?_
  refine kw_istore_n (lo' := [(0, .ref h0), (1, .int 0)]) X dL_coins_1 rfl (by decide) [1, 0] rfl ?_
  refine kw_iconst X dL_coins_2 ci_0 ?_
  refine kw_istore_n (lo' := [(0, .ref h0), (1, .int 0), (2, .int 0)]) X dL_coins_3 rfl (by decide) [1, 2, 0] rfl ?_
  refine kw_iconst X dL_coins_4 ci_0 ?_
  refine kw_istore_n (lo' := [(0, .ref h0), (1, .int 0), (2, .int 0), (3, .int 0)]) X dL_coins_5 rfl (by decide) [1, 2, 3, 0] rfl ?_
  refine kw_iconst X dL_coins_6 ci_0 ?_
  refine kw_istore (lo' := [(0, .ref h0), (1, .int 0), (2, .int 0), (3, .int 0), (4, .int 0)]) X dL_coins_7 (by decide) [1, 2, 3, 4, 0] rfl ?_
  have hL9 : ∀ (F : Nat) (v1_302 : Int32) (v2_303 : Int32) (v3_304 : Int32) (v4_305 : Int32), f_L_coins_L9 Z v F v1_302 v2_303 v3_304 v4_305 = some r → KW Γ 0 0 (wj [bO cI cC cR h0 h1 t0 t1 a b d ah v]) [(0, .ref h0), (1, .int v1_302), (2, .int v2_303), (3, .int v3_304), (4, .int v4_305)] 9 [] := by
    intro F
    induction F with
    | zero => intro v1_302 v2_303 v3_304 v4_305 hF; exact none_some hF
    | succ F ih9 =>
      intro v1_302 v2_303 v3_304 v4_305 hF
      rw [f_L_coins_L9] at hF
      refine kw_iload X dL_coins_9 4 rfl ?_
      refine kw_bipush X dL_coins_11 cb_12 ?_
      refine kw_icmp_ge X 300 dL_coins_13 (by decide) (fun q306 => ?_) (fun q306 => ?_)
      · replace hF := (if_neg q306).symm.trans hF
        refine kw_aload_n X dL_coins_300 rfl 0 rfl ?_
        refine kw_bipush X dL_coins_301 cb_9 ?_
        obtain ⟨b307, hx307, hF⟩ := ob1_ex hF
        refine kb_ap X (r := .int b307) (As := [.int 9]) (st := []) (cm_count l D cI cC cR h0 h1 t0 t1 a b d ah v 9 Z b307 hx307) vl_L_9 yv_X6_count ⟨Nat.le_of_ble_eq_true rfl, Nat.le_of_ble_eq_true rfl⟩ ⟨rfl, rfl⟩ ⟨Nat.le_of_ble_eq_true rfl, Nat.le_of_ble_eq_true rfl⟩ 0 0 rfl bO_0 rfl rfl rfl (Nat.le_of_ble_eq_true rfl) dL_coins_303 ?_
        refine kw_iload_n X dL_coins_306 rfl 1 rfl ?_
        refine kw_icmp_ne X 367 dL_coins_307 (by decide) (fun q308 => ?_) (fun q308 => ?_)
        · replace hF := (if_neg q308).symm.trans hF
          refine kw_iconst X dL_coins_367 ci_0 ?_
          obtain rfl := si1 hF
          refine kb_first ?_
          exact hret _ _ rfl dL_coins_368
        · replace hF := (if_pos q308).symm.trans hF
          refine kw_aload_n X dL_coins_310 rfl 0 rfl ?_
          refine kw_bipush X dL_coins_311 cb_11 ?_
          obtain ⟨b309, hx309, hF⟩ := ob1_ex hF
          refine kb_ap X (r := .int b309) (As := [.int 11]) (st := []) (cm_count l D cI cC cR h0 h1 t0 t1 a b d ah v 11 Z b309 hx309) vl_L_9 yv_X6_count ⟨Nat.le_of_ble_eq_true rfl, Nat.le_of_ble_eq_true rfl⟩ ⟨rfl, rfl⟩ ⟨Nat.le_of_ble_eq_true rfl, Nat.le_of_ble_eq_true rfl⟩ 0 0 rfl bO_0 rfl rfl rfl (Nat.le_of_ble_eq_true rfl) dL_coins_313 ?_
          refine kw_iload_n X dL_coins_316 rfl 2 rfl ?_
          refine kw_icmp_ne X 367 dL_coins_317 (by decide) (fun q310 => ?_) (fun q310 => ?_)
          · replace hF := (if_neg q310).symm.trans hF
            refine kw_iconst X dL_coins_367 ci_0 ?_
            obtain rfl := si1 hF
            refine kb_first ?_
            exact hret _ _ rfl dL_coins_368
          · replace hF := (if_pos q310).symm.trans hF
            refine kw_aload_n X dL_coins_320 rfl 0 rfl ?_
            refine kw_iconst X dL_coins_321 ci_3 ?_
            obtain ⟨b311, hx311, hF⟩ := ob1_ex hF
            refine kb_ap X (r := .int b311) (As := [.int 3]) (st := []) (cm_count l D cI cC cR h0 h1 t0 t1 a b d ah v 3 Z b311 hx311) vl_L_9 yv_X6_count ⟨Nat.le_of_ble_eq_true rfl, Nat.le_of_ble_eq_true rfl⟩ ⟨rfl, rfl⟩ ⟨Nat.le_of_ble_eq_true rfl, Nat.le_of_ble_eq_true rfl⟩ 0 0 rfl bO_0 rfl rfl rfl (Nat.le_of_ble_eq_true rfl) dL_coins_322 ?_
            refine kw_iload_n X dL_coins_325 rfl 3 rfl ?_
            refine kw_icmp_ne X 367 dL_coins_326 (by decide) (fun q312 => ?_) (fun q312 => ?_)
            · replace hF := (if_neg q312).symm.trans hF
              refine kw_iconst X dL_coins_367 ci_0 ?_
              obtain rfl := si1 hF
              refine kb_first ?_
              exact hret _ _ rfl dL_coins_368
            · replace hF := (if_pos q312).symm.trans hF
              refine kw_aload_n X dL_coins_329 rfl 0 rfl ?_
              refine kw_bipush X dL_coins_330 cb_8 ?_
              obtain ⟨b313, hx313, hF⟩ := ob1_ex hF
              refine kb_ap X (r := .int b313) (As := [.int 8]) (st := []) (cm_count l D cI cC cR h0 h1 t0 t1 a b d ah v 8 Z b313 hx313) vl_L_9 yv_X6_count ⟨Nat.le_of_ble_eq_true rfl, Nat.le_of_ble_eq_true rfl⟩ ⟨rfl, rfl⟩ ⟨Nat.le_of_ble_eq_true rfl, Nat.le_of_ble_eq_true rfl⟩ 0 0 rfl bO_0 rfl rfl rfl (Nat.le_of_ble_eq_true rfl) dL_coins_332 ?_
              refine kw_iload_n X dL_coins_335 rfl 1 rfl ?_
              refine kw_iadd X dL_coins_336 ?_
              refine kw_aload_n X dL_coins_337 rfl 0 rfl ?_
              refine kw_bipush X dL_coins_338 cb_10 ?_
              obtain ⟨b314, hx314, hF⟩ := ob1_ex hF
              refine kb_ap X (r := .int b314) (As := [.int 10]) (st := [.int (b313 + v1_302)]) (cm_count l D cI cC cR h0 h1 t0 t1 a b d ah v 10 Z b314 hx314) vl_L_9 yv_X6_count ⟨Nat.le_of_ble_eq_true rfl, Nat.le_of_ble_eq_true rfl⟩ ⟨rfl, rfl⟩ ⟨Nat.le_of_ble_eq_true rfl, Nat.le_of_ble_eq_true rfl⟩ 0 0 rfl bO_0 rfl rfl rfl (Nat.le_of_ble_eq_true rfl) dL_coins_340 ?_
              refine kw_iadd X dL_coins_343 ?_
              refine kw_sipush X dL_coins_344 cs_580 ?_
              refine kw_icmp_ne X 367 dL_coins_347 (by decide) (fun q315 => ?_) (fun q315 => ?_)
              · replace hF := (if_neg q315).symm.trans hF
                refine kw_iconst X dL_coins_367 ci_0 ?_
                obtain rfl := si1 hF
                refine kb_first ?_
                exact hret _ _ rfl dL_coins_368
              · replace hF := (if_pos q315).symm.trans hF
                refine kw_aload_n X dL_coins_350 rfl 0 rfl ?_
                refine kw_bipush X dL_coins_351 cb_8 ?_
                obtain ⟨b316, hx316, hF⟩ := ob1_ex hF
                refine kb_ap X (r := .int b316) (As := [.int 8]) (st := []) (cm_count l D cI cC cR h0 h1 t0 t1 a b d ah v 8 Z b316 hx316) vl_L_9 yv_X6_count ⟨Nat.le_of_ble_eq_true rfl, Nat.le_of_ble_eq_true rfl⟩ ⟨rfl, rfl⟩ ⟨Nat.le_of_ble_eq_true rfl, Nat.le_of_ble_eq_true rfl⟩ 0 0 rfl bO_0 rfl rfl rfl (Nat.le_of_ble_eq_true rfl) dL_coins_353 ?_
                refine kw_bipush X dL_coins_356 cb_10 ?_
                refine kw_iload_n X dL_coins_358 rfl 3 rfl ?_
                refine kw_imul X dL_coins_359 ?_
                refine kw_icmp_lt X 367 dL_coins_360 (by decide) (fun q317 => ?_) (fun q317 => ?_)
                · replace hF := (if_pos q317).symm.trans hF
                  refine kw_iconst X dL_coins_367 ci_0 ?_
                  obtain rfl := si1 hF
                  refine kb_first ?_
                  exact hret _ _ rfl dL_coins_368
                · replace hF := (if_neg q317).symm.trans hF
                  refine kw_iconst X dL_coins_363 ci_1 ?_
                  refine kw_goto X 368 dL_coins_364 (by decide) ?_
                  obtain rfl := si1 hF
                  refine kb_first ?_
                  exact hret _ _ rfl dL_coins_368
      · replace hF := (if_pos q306).symm.trans hF
        refine kw_aload_n X dL_coins_16 rfl 0 rfl ?_
        refine kw_iload X dL_coins_17 4 rfl ?_
        refine kw_iconst X dL_coins_19 ci_1 ?_
        obtain ⟨b318, hx318, hF⟩ := ob1_ex hF
        refine kb_ap X (r := .int b318) (As := [.int v4_305, .int 1]) (st := []) (cm_person l D cI cC cR h0 h1 t0 t1 a b d ah v v4_305 1 Z b318 hx318) vl_L_21 yv_X6_person ⟨Nat.le_of_ble_eq_true rfl, Nat.le_of_ble_eq_true rfl⟩ ⟨rfl, rfl⟩ ⟨Nat.le_of_ble_eq_true rfl, Nat.le_of_ble_eq_true rfl⟩ 0 0 rfl bO_0 rfl rfl rfl (Nat.le_of_ble_eq_true rfl) dL_coins_20 ?_
        refine kw_istore (lo' := [(0, .ref h0), (1, .int v1_302), (2, .int v2_303), (3, .int v3_304), (4, .int v4_305), (5, .int b318)]) X dL_coins_23 (by decide) [1, 2, 3, 4, 5, 0] rfl ?_
        refine kw_iload_n X dL_coins_25 rfl 1 rfl ?_
        refine kw_aload_n X dL_coins_26 rfl 0 rfl ?_
        refine kw_iload X dL_coins_27 4 rfl ?_
        refine kw_iconst X dL_coins_29 ci_0 ?_
        obtain ⟨b319, hx319, hF⟩ := ob1_ex hF
        refine kb_ap X (r := .int b319) (As := [.int v4_305, .int 0]) (st := [.int v1_302]) (cm_person l D cI cC cR h0 h1 t0 t1 a b d ah v v4_305 0 Z b319 hx319) vl_L_21 yv_X6_person ⟨Nat.le_of_ble_eq_true rfl, Nat.le_of_ble_eq_true rfl⟩ ⟨rfl, rfl⟩ ⟨Nat.le_of_ble_eq_true rfl, Nat.le_of_ble_eq_true rfl⟩ 0 0 rfl bO_0 rfl rfl rfl (Nat.le_of_ble_eq_true rfl) dL_coins_30 ?_
        refine kw_iadd X dL_coins_33 ?_
        refine kw_istore_n (lo' := [(0, .ref h0), (1, .int (v1_302 + b319)), (2, .int v2_303), (3, .int v3_304), (4, .int v4_305), (5, .int b318)]) X dL_coins_34 rfl (by decide) [1, 0, 2, 3, 4, 5] rfl ?_
        refine kw_iload_n X dL_coins_35 rfl 2 rfl ?_
        refine kw_aload_n X dL_coins_36 rfl 0 rfl ?_
        refine kw_iload X dL_coins_37 4 rfl ?_
        refine kw_iconst X dL_coins_39 ci_5 ?_
        obtain ⟨b320, hx320, hF⟩ := ob1_ex hF
        refine kb_ap X (r := .int b320) (As := [.int v4_305, .int 5]) (st := [.int v2_303]) (cm_person l D cI cC cR h0 h1 t0 t1 a b d ah v v4_305 5 Z b320 hx320) vl_L_21 yv_X6_person ⟨Nat.le_of_ble_eq_true rfl, Nat.le_of_ble_eq_true rfl⟩ ⟨rfl, rfl⟩ ⟨Nat.le_of_ble_eq_true rfl, Nat.le_of_ble_eq_true rfl⟩ 0 0 rfl bO_0 rfl rfl rfl (Nat.le_of_ble_eq_true rfl) dL_coins_40 ?_
        refine kw_iadd X dL_coins_43 ?_
        refine kw_istore_n (lo' := [(0, .ref h0), (1, .int (v1_302 + b319)), (2, .int (v2_303 + b320)), (3, .int v3_304), (4, .int v4_305), (5, .int b318)]) X dL_coins_44 rfl (by decide) [1, 2, 0, 3, 4, 5] rfl ?_
        refine kw_iload_n X dL_coins_45 rfl 3 rfl ?_
        refine kw_iload X dL_coins_46 5 rfl ?_
        refine kw_bipush X dL_coins_48 cb_m9 ?_
        obtain ⟨x322, hx323, hF⟩ := pl1_ex hF
        have J : KW Γ 0 0 (wj [bO cI cC cR h0 h1 t0 t1 a b d ah v]) [(0, .ref h0), (1, .int (v1_302 + b319)), (2, .int (v2_303 + b320)), (4, .int v4_305), (5, .int b318)] 58 [.int x322, .int v3_304] := by
          refine kw_iadd X dL_coins_58 ?_
          refine kw_istore_n (lo' := [(0, .ref h0), (1, .int (v1_302 + b319)), (2, .int (v2_303 + b320)), (3, .int (v3_304 + x322)), (4, .int v4_305), (5, .int b318)]) X dL_coins_59 rfl (by decide) [1, 2, 3, 0, 4, 5] rfl ?_
          refine kw_aload_n X dL_coins_60 rfl 0 rfl ?_
          refine kw_iload X dL_coins_61 4 rfl ?_
          refine kw_iconst X dL_coins_63 ci_0 ?_
          refine kw_iconst X dL_coins_64 ci_0 ?_
          obtain ⟨b324, hx324, hF⟩ := ob1_ex hF
          refine kb_ap X (r := .int b324) (As := [.int v4_305, .int 0, .int 0]) (st := []) (cm_feeIn l D cI cC cR h0 h1 t0 t1 a b d ah v v4_305 0 0 Z b324 hx324) vl_L_27 yv_X6_feeIn ⟨Nat.le_of_ble_eq_true rfl, Nat.le_of_ble_eq_true rfl⟩ ⟨rfl, rfl⟩ ⟨Nat.le_of_ble_eq_true rfl, Nat.le_of_ble_eq_true rfl⟩ 0 0 rfl bO_0 rfl rfl rfl (Nat.le_of_ble_eq_true rfl) dL_coins_65 ?_
          refine kw_istore (lo' := [(0, .ref h0), (1, .int (v1_302 + b319)), (2, .int (v2_303 + b320)), (3, .int (v3_304 + x322)), (4, .int v4_305), (5, .int b318), (6, .int b324)]) X dL_coins_68 (by decide) [1, 2, 3, 4, 5, 6, 0] rfl ?_
          refine kw_aload_n X dL_coins_70 rfl 0 rfl ?_
          refine kw_iload X dL_coins_71 4 rfl ?_
          refine kw_iconst X dL_coins_73 ci_0 ?_
          obtain ⟨b325, hx325, hF⟩ := ob1_ex hF
          refine kb_ap X (r := .int b325) (As := [.int v4_305, .int 0]) (st := []) (cm_person l D cI cC cR h0 h1 t0 t1 a b d ah v v4_305 0 Z b325 hx325) vl_L_21 yv_X6_person ⟨Nat.le_of_ble_eq_true rfl, Nat.le_of_ble_eq_true rfl⟩ ⟨rfl, rfl⟩ ⟨Nat.le_of_ble_eq_true rfl, Nat.le_of_ble_eq_true rfl⟩ 0 0 rfl bO_0 rfl rfl rfl (Nat.le_of_ble_eq_true rfl) dL_coins_74 ?_
          refine kw_if_lt X 171 dL_coins_77 (by decide) (fun q326 => ?_) (fun q326 => ?_)
          · replace hF := (if_pos q326).symm.trans hF
            refine kw_iconst X dL_coins_171 ci_0 ?_
            obtain rfl := si1 hF
            refine kb_first ?_
            exact hret _ _ rfl dL_coins_172
          · replace hF := (if_neg q326).symm.trans hF
            refine kw_iload X dL_coins_80 5 rfl ?_
            refine kw_bipush X dL_coins_82 cb_m9 ?_
            refine kw_icmp_eq X 110 dL_coins_84 (by decide) (fun q327 => ?_) (fun q327 => ?_)
            · replace hF := (if_pos q327).symm.trans hF
              refine kw_iload X dL_coins_110 5 rfl ?_
              refine kw_bipush X dL_coins_112 cb_m9 ?_
              obtain ⟨x329, hx330, hF⟩ := pl1_ex hF
              have J : KW Γ 0 0 (wj [bO cI cC cR h0 h1 t0 t1 a b d ah v]) [(0, .ref h0), (1, .int (v1_302 + b319)), (2, .int (v2_303 + b320)), (3, .int (v3_304 + x322)), (4, .int v4_305), (5, .int b318), (6, .int b324)] 122 [.int x329] := by
                refine kw_iload X dL_coins_122 6 rfl ?_
                refine kw_bipush X dL_coins_124 cb_m2 ?_
                obtain ⟨x332, hx333, hF⟩ := pl1_ex hF
                have J : KW Γ 0 0 (wj [bO cI cC cR h0 h1 t0 t1 a b d ah v]) [(0, .ref h0), (1, .int (v1_302 + b319)), (2, .int (v2_303 + b320)), (3, .int (v3_304 + x322)), (4, .int v4_305), (5, .int b318), (6, .int b324)] 134 [.int x332, .int x329] := by
                  refine kw_icmp_ne X 171 dL_coins_134 (by decide) (fun q334 => ?_) (fun q334 => ?_)
                  · replace hF := (if_neg q334).symm.trans hF
                    refine kw_iconst X dL_coins_171 ci_0 ?_
                    obtain rfl := si1 hF
                    refine kb_first ?_
                    exact hret _ _ rfl dL_coins_172
                  · replace hF := (if_pos q334).symm.trans hF
                    refine kw_iload X dL_coins_137 5 rfl ?_
                    refine kw_bipush X dL_coins_139 cb_m9 ?_
                    refine kw_icmp_ne X 164 dL_coins_141 (by decide) (fun q335 => ?_) (fun q335 => ?_)
                    · replace hF := (if_neg q335).symm.trans hF
                      refine kw_iload X dL_coins_164 6 rfl ?_
                      refine kw_bipush X dL_coins_166 cb_10 ?_
                      refine kw_icmp_le X 173 dL_coins_168 (by decide) (fun q336 => ?_) (fun q336 => ?_)
                      · replace hF := (if_neg q336).symm.trans hF
                        refine kw_iload X dL_coins_173 5 rfl ?_
                        refine kw_bipush X dL_coins_175 cb_m9 ?_
                        refine kw_icmp_eq X 294 dL_coins_177 (by decide) (fun q337 => ?_) (fun q337 => ?_)
                        · replace hF := (if_pos q337).symm.trans hF
                          refine kw_iinc (lo' := [(0, .ref h0), (1, .int (v1_302 + b319)), (2, .int (v2_303 + b320)), (3, .int (v3_304 + x322)), (4, .int (v4_305 + 1)), (5, .int b318), (6, .int b324)]) X dL_coins_294 4 rfl (congrArg (fun w => v4_305 + w) ci_1) (by decide) [1, 2, 3, 4, 0, 5, 6] rfl ?_
                          refine kw_goto X 9 dL_coins_297 (by decide) ?_
                          refine kw_loc (lo' := [(0, .ref h0), (1, .int (v1_302 + b319)), (2, .int (v2_303 + b320)), (3, .int (v3_304 + x322)), (4, .int (v4_305 + 1))]) [0, 1, 2, 3, 4] rfl ?_
                          exact ih9 _ _ _ _ hF
                        · replace hF := (if_neg q337).symm.trans hF
                          refine kw_iload X dL_coins_180 6 rfl ?_
                          refine kw_aload_n X dL_coins_182 rfl 0 rfl ?_
                          refine kw_iload X dL_coins_183 4 rfl ?_
                          refine kw_iconst X dL_coins_185 ci_2 ?_
                          obtain ⟨b338, hx338, hF⟩ := ob1_ex hF
                          refine kb_ap X (r := .int b338) (As := [.int v4_305, .int 2]) (st := [.int b324]) (cm_person l D cI cC cR h0 h1 t0 t1 a b d ah v v4_305 2 Z b338 hx338) vl_L_21 yv_X6_person ⟨Nat.le_of_ble_eq_true rfl, Nat.le_of_ble_eq_true rfl⟩ ⟨rfl, rfl⟩ ⟨Nat.le_of_ble_eq_true rfl, Nat.le_of_ble_eq_true rfl⟩ 0 0 rfl bO_0 rfl rfl rfl (Nat.le_of_ble_eq_true rfl) dL_coins_186 ?_
                          refine kw_aload_n X dL_coins_189 rfl 0 rfl ?_
                          refine kw_bipush X dL_coins_190 cb_14 ?_
                          obtain ⟨b339, hx339, hF⟩ := ob1_ex hF
                          refine kb_ap X (r := .int b339) (As := [.int 14]) (st := [.int b338, .int b324]) (cm_count l D cI cC cR h0 h1 t0 t1 a b d ah v 14 Z b339 hx339) vl_L_9 yv_X6_count ⟨Nat.le_of_ble_eq_true rfl, Nat.le_of_ble_eq_true rfl⟩ ⟨rfl, rfl⟩ ⟨Nat.le_of_ble_eq_true rfl, Nat.le_of_ble_eq_true rfl⟩ 0 0 rfl bO_0 rfl rfl rfl (Nat.le_of_ble_eq_true rfl) dL_coins_192 ?_
                          refine kw_imul X dL_coins_195 ?_
                          refine kw_iconst X dL_coins_196 ci_4 ?_
                          refine kw_aload_n X dL_coins_197 rfl 0 rfl ?_
                          refine kw_iload X dL_coins_198 4 rfl ?_
                          refine kw_iconst X dL_coins_200 ci_3 ?_
                          obtain ⟨b340, hx340, hF⟩ := ob1_ex hF
                          refine kb_ap X (r := .int b340) (As := [.int v4_305, .int 3]) (st := [.int 4, .int (b338 * b339), .int b324]) (cm_person l D cI cC cR h0 h1 t0 t1 a b d ah v v4_305 3 Z b340 hx340) vl_L_21 yv_X6_person ⟨Nat.le_of_ble_eq_true rfl, Nat.le_of_ble_eq_true rfl⟩ ⟨rfl, rfl⟩ ⟨Nat.le_of_ble_eq_true rfl, Nat.le_of_ble_eq_true rfl⟩ 0 0 rfl bO_0 rfl rfl rfl (Nat.le_of_ble_eq_true rfl) dL_coins_201 ?_
                          refine kw_imul X dL_coins_204 ?_
                          refine kw_iadd X dL_coins_205 ?_
                          refine kw_bipush X dL_coins_206 cb_10 ?_
                          obtain ⟨x345, hx346, hF⟩ := ob1_ex hF
                          have J : KW Γ 0 0 (wj [bO cI cC cR h0 h1 t0 t1 a b d ah v]) [(0, .ref h0), (1, .int (v1_302 + b319)), (2, .int (v2_303 + b320)), (3, .int (v3_304 + x322)), (4, .int v4_305), (5, .int b318), (6, .int b324)] 240 [.int x345, .int b324] := by
                            refine kw_icmp_ne X 292 dL_coins_240 (by decide) (fun q347 => ?_) (fun q347 => ?_)
                            · replace hF := (if_neg q347).symm.trans hF
                              refine kw_iconst X dL_coins_292 ci_0 ?_
                              obtain rfl := si1 hF
                              refine kb_first ?_
                              exact hret _ _ rfl dL_coins_293
                            · replace hF := (if_pos q347).symm.trans hF
                              refine kw_aload_n X dL_coins_243 rfl 0 rfl ?_
                              refine kw_iload X dL_coins_244 4 rfl ?_
                              refine kw_bipush X dL_coins_246 cb_7 ?_
                              refine kw_iconst X dL_coins_248 ci_4 ?_
                              obtain ⟨b348, hx348, hF⟩ := ob1_ex hF
                              refine kb_ap X (r := .int b348) (As := [.int v4_305, .int 7, .int 4]) (st := []) (cm_feeIn l D cI cC cR h0 h1 t0 t1 a b d ah v v4_305 7 4 Z b348 hx348) vl_L_27 yv_X6_feeIn ⟨Nat.le_of_ble_eq_true rfl, Nat.le_of_ble_eq_true rfl⟩ ⟨rfl, rfl⟩ ⟨Nat.le_of_ble_eq_true rfl, Nat.le_of_ble_eq_true rfl⟩ 0 0 rfl bO_0 rfl rfl rfl (Nat.le_of_ble_eq_true rfl) dL_coins_249 ?_
                              refine kw_iload X dL_coins_252 6 rfl ?_
                              refine kw_icmp_lt X 292 dL_coins_254 (by decide) (fun q349 => ?_) (fun q349 => ?_)
                              · replace hF := (if_pos q349).symm.trans hF
                                refine kw_iconst X dL_coins_292 ci_0 ?_
                                obtain rfl := si1 hF
                                refine kb_first ?_
                                exact hret _ _ rfl dL_coins_293
                              · replace hF := (if_neg q349).symm.trans hF
                                refine kw_aload_n X dL_coins_257 rfl 0 rfl ?_
                                refine kw_iload X dL_coins_258 4 rfl ?_
                                refine kw_iconst X dL_coins_260 ci_3 ?_
                                refine kw_iconst X dL_coins_261 ci_1 ?_
                                obtain ⟨b350, hx350, hF⟩ := ob1_ex hF
                                refine kb_ap X (r := .int b350) (As := [.int v4_305, .int 3, .int 1]) (st := []) (cm_breaksIn l D cI cC cR h0 h1 t0 t1 a b d ah v v4_305 3 1 Z b350 hx350) vl_L_31 yv_X6_breaksIn ⟨Nat.le_of_ble_eq_true rfl, Nat.le_of_ble_eq_true rfl⟩ ⟨rfl, rfl⟩ ⟨Nat.le_of_ble_eq_true rfl, Nat.le_of_ble_eq_true rfl⟩ 0 0 rfl bO_0 rfl rfl rfl (Nat.le_of_ble_eq_true rfl) dL_coins_262 ?_
                                obtain ⟨x352, hx353, hF⟩ := pl1_ex hF
                                have J : KW Γ 0 0 (wj [bO cI cC cR h0 h1 t0 t1 a b d ah v]) [(0, .ref h0), (1, .int (v1_302 + b319)), (2, .int (v2_303 + b320)), (3, .int (v3_304 + x322)), (4, .int v4_305), (5, .int b318)] 273 [.int x352] := by
                                  refine kw_aload_n X dL_coins_273 rfl 0 rfl ?_
                                  refine kw_iload X dL_coins_274 5 rfl ?_
                                  refine kw_iconst X dL_coins_276 ci_3 ?_
                                  obtain ⟨b354, hx354, hF⟩ := ob1_ex hF
                                  refine kb_ap X (r := .int b354) (As := [.int b318, .int 3]) (st := [.int x352]) (cm_umbrella l D cI cC cR h0 h1 t0 t1 a b d ah v b318 3 b354 hx354) vl_L_15 yv_X6_umbrella ⟨Nat.le_of_ble_eq_true rfl, Nat.le_of_ble_eq_true rfl⟩ ⟨rfl, rfl⟩ ⟨Nat.le_of_ble_eq_true rfl, Nat.le_of_ble_eq_true rfl⟩ 0 0 rfl bO_0 rfl rfl rfl (Nat.le_of_ble_eq_true rfl) dL_coins_277 ?_
                                  refine kw_iconst X dL_coins_280 ci_1 ?_
                                  obtain ⟨x356, hx357, hF⟩ := pl1_ex hF
                                  have J : KW Γ 0 0 (wj [bO cI cC cR h0 h1 t0 t1 a b d ah v]) [(0, .ref h0), (1, .int (v1_302 + b319)), (2, .int (v2_303 + b320)), (3, .int (v3_304 + x322)), (4, .int v4_305)] 289 [.int x356, .int x352] := by
                                    refine kw_icmp_eq X 294 dL_coins_289 (by decide) (fun q358 => ?_) (fun q358 => ?_)
                                    · replace hF := (if_pos q358).symm.trans hF
                                      refine kw_iinc (lo' := [(0, .ref h0), (1, .int (v1_302 + b319)), (2, .int (v2_303 + b320)), (3, .int (v3_304 + x322)), (4, .int (v4_305 + 1))]) X dL_coins_294 4 rfl (congrArg (fun w => v4_305 + w) ci_1) (by decide) [1, 2, 3, 4, 0] rfl ?_
                                      refine kw_goto X 9 dL_coins_297 (by decide) ?_
                                      exact ih9 _ _ _ _ hF
                                    · replace hF := (if_neg q358).symm.trans hF
                                      refine kw_iconst X dL_coins_292 ci_0 ?_
                                      obtain rfl := si1 hF
                                      refine kb_first ?_
                                      exact hret _ _ rfl dL_coins_293
                                  replace hF := hx357
                                  refine kw_icmp_ne X 288 dL_coins_281 (by decide) (fun q355 => ?_) (fun q355 => ?_)
                                  · replace hF := (if_neg q355).symm.trans hF
                                    refine kw_iconst X dL_coins_288 ci_0 ?_
                                    refine kw_loc (lo' := [(0, .ref h0), (1, .int (v1_302 + b319)), (2, .int (v2_303 + b320)), (3, .int (v3_304 + x322)), (4, .int v4_305)]) [0, 1, 2, 3, 4] rfl ?_
                                    obtain rfl := ti1 hF
                                    exact J
                                  · replace hF := (if_pos q355).symm.trans hF
                                    refine kw_iconst X dL_coins_284 ci_1 ?_
                                    refine kw_goto X 289 dL_coins_285 (by decide) ?_
                                    refine kw_loc (lo' := [(0, .ref h0), (1, .int (v1_302 + b319)), (2, .int (v2_303 + b320)), (3, .int (v3_304 + x322)), (4, .int v4_305)]) [0, 1, 2, 3, 4] rfl ?_
                                    obtain rfl := ti1 hF
                                    exact J
                                replace hF := hx353
                                refine kw_if_ne X 272 dL_coins_265 (by decide) (fun q351 => ?_) (fun q351 => ?_)
                                · replace hF := (if_neg q351).symm.trans hF
                                  refine kw_iconst X dL_coins_272 ci_0 ?_
                                  refine kw_loc (lo' := [(0, .ref h0), (1, .int (v1_302 + b319)), (2, .int (v2_303 + b320)), (3, .int (v3_304 + x322)), (4, .int v4_305), (5, .int b318)]) [0, 1, 2, 3, 4, 5] rfl ?_
                                  obtain rfl := ti1 hF
                                  exact J
                                · replace hF := (if_pos q351).symm.trans hF
                                  refine kw_iconst X dL_coins_268 ci_1 ?_
                                  refine kw_goto X 273 dL_coins_269 (by decide) ?_
                                  refine kw_loc (lo' := [(0, .ref h0), (1, .int (v1_302 + b319)), (2, .int (v2_303 + b320)), (3, .int (v3_304 + x322)), (4, .int v4_305), (5, .int b318)]) [0, 1, 2, 3, 4, 5] rfl ?_
                                  obtain rfl := ti1 hF
                                  exact J
                          replace hF := hx346
                          refine kw_icmp_le X 216 dL_coins_208 (by decide) (fun q341 => ?_) (fun q341 => ?_)
                          · replace hF := (if_neg q341).symm.trans hF
                            refine kw_aload_n X dL_coins_216 rfl 0 rfl ?_
                            refine kw_iload X dL_coins_217 4 rfl ?_
                            refine kw_iconst X dL_coins_219 ci_2 ?_
                            obtain ⟨b359, hx359, hF⟩ := ob1_ex hF
                            refine kb_ap X (r := .int b359) (As := [.int v4_305, .int 2]) (st := [.int b324]) (cm_person l D cI cC cR h0 h1 t0 t1 a b d ah v v4_305 2 Z b359 hx359) vl_L_21 yv_X6_person ⟨Nat.le_of_ble_eq_true rfl, Nat.le_of_ble_eq_true rfl⟩ ⟨rfl, rfl⟩ ⟨Nat.le_of_ble_eq_true rfl, Nat.le_of_ble_eq_true rfl⟩ 0 0 rfl bO_0 rfl rfl rfl (Nat.le_of_ble_eq_true rfl) dL_coins_220 ?_
                            refine kw_aload_n X dL_coins_223 rfl 0 rfl ?_
                            refine kw_bipush X dL_coins_224 cb_14 ?_
                            obtain ⟨b360, hx360, hF⟩ := ob1_ex hF
                            refine kb_ap X (r := .int b360) (As := [.int 14]) (st := [.int b359, .int b324]) (cm_count l D cI cC cR h0 h1 t0 t1 a b d ah v 14 Z b360 hx360) vl_L_9 yv_X6_count ⟨Nat.le_of_ble_eq_true rfl, Nat.le_of_ble_eq_true rfl⟩ ⟨rfl, rfl⟩ ⟨Nat.le_of_ble_eq_true rfl, Nat.le_of_ble_eq_true rfl⟩ 0 0 rfl bO_0 rfl rfl rfl (Nat.le_of_ble_eq_true rfl) dL_coins_226 ?_
                            refine kw_imul X dL_coins_229 ?_
                            refine kw_iconst X dL_coins_230 ci_4 ?_
                            refine kw_aload_n X dL_coins_231 rfl 0 rfl ?_
                            refine kw_iload X dL_coins_232 4 rfl ?_
                            refine kw_iconst X dL_coins_234 ci_3 ?_
                            obtain ⟨b361, hx361, hF⟩ := ob1_ex hF
                            refine kb_ap X (r := .int b361) (As := [.int v4_305, .int 3]) (st := [.int 4, .int (b359 * b360), .int b324]) (cm_person l D cI cC cR h0 h1 t0 t1 a b d ah v v4_305 3 Z b361 hx361) vl_L_21 yv_X6_person ⟨Nat.le_of_ble_eq_true rfl, Nat.le_of_ble_eq_true rfl⟩ ⟨rfl, rfl⟩ ⟨Nat.le_of_ble_eq_true rfl, Nat.le_of_ble_eq_true rfl⟩ 0 0 rfl bO_0 rfl rfl rfl (Nat.le_of_ble_eq_true rfl) dL_coins_235 ?_
                            refine kw_imul X dL_coins_238 ?_
                            refine kw_iadd X dL_coins_239 ?_
                            obtain rfl := si1 hF
                            exact J
                          · replace hF := (if_pos q341).symm.trans hF
                            refine kw_bipush X dL_coins_211 cb_10 ?_
                            refine kw_goto X 240 dL_coins_213 (by decide) ?_
                            obtain rfl := si1 hF
                            exact J
                      · replace hF := (if_pos q336).symm.trans hF
                        refine kw_iconst X dL_coins_171 ci_0 ?_
                        obtain rfl := si1 hF
                        refine kb_first ?_
                        exact hret _ _ rfl dL_coins_172
                    · replace hF := (if_pos q335).symm.trans hF
                      refine kw_aload_n X dL_coins_144 rfl 0 rfl ?_
                      refine kw_iload X dL_coins_145 4 rfl ?_
                      refine kw_iconst X dL_coins_147 ci_2 ?_
                      obtain ⟨b362, hx362, hF⟩ := ob1_ex hF
                      refine kb_ap X (r := .int b362) (As := [.int v4_305, .int 2]) (st := []) (cm_person l D cI cC cR h0 h1 t0 t1 a b d ah v v4_305 2 Z b362 hx362) vl_L_21 yv_X6_person ⟨Nat.le_of_ble_eq_true rfl, Nat.le_of_ble_eq_true rfl⟩ ⟨rfl, rfl⟩ ⟨Nat.le_of_ble_eq_true rfl, Nat.le_of_ble_eq_true rfl⟩ 0 0 rfl bO_0 rfl rfl rfl (Nat.le_of_ble_eq_true rfl) dL_coins_148 ?_
                      refine kw_if_ne X 171 dL_coins_151 (by decide) (fun q363 => ?_) (fun q363 => ?_)
                      · replace hF := (if_neg q363).symm.trans hF
                        refine kw_iconst X dL_coins_171 ci_0 ?_
                        obtain rfl := si1 hF
                        refine kb_first ?_
                        exact hret _ _ rfl dL_coins_172
                      · replace hF := (if_pos q363).symm.trans hF
                        refine kw_aload_n X dL_coins_154 rfl 0 rfl ?_
                        refine kw_iload X dL_coins_155 4 rfl ?_
                        refine kw_iconst X dL_coins_157 ci_3 ?_
                        obtain ⟨b364, hx364, hF⟩ := ob1_ex hF
                        refine kb_ap X (r := .int b364) (As := [.int v4_305, .int 3]) (st := []) (cm_person l D cI cC cR h0 h1 t0 t1 a b d ah v v4_305 3 Z b364 hx364) vl_L_21 yv_X6_person ⟨Nat.le_of_ble_eq_true rfl, Nat.le_of_ble_eq_true rfl⟩ ⟨rfl, rfl⟩ ⟨Nat.le_of_ble_eq_true rfl, Nat.le_of_ble_eq_true rfl⟩ 0 0 rfl bO_0 rfl rfl rfl (Nat.le_of_ble_eq_true rfl) dL_coins_158 ?_
                        refine kw_if_ne X 171 dL_coins_161 (by decide) (fun q365 => ?_) (fun q365 => ?_)
                        · replace hF := (if_neg q365).symm.trans hF
                          refine kw_iconst X dL_coins_171 ci_0 ?_
                          obtain rfl := si1 hF
                          refine kb_first ?_
                          exact hret _ _ rfl dL_coins_172
                        · replace hF := (if_pos q365).symm.trans hF
                          refine kw_iload X dL_coins_164 6 rfl ?_
                          refine kw_bipush X dL_coins_166 cb_10 ?_
                          refine kw_icmp_le X 173 dL_coins_168 (by decide) (fun q366 => ?_) (fun q366 => ?_)
                          · replace hF := (if_neg q366).symm.trans hF
                            refine kw_iload X dL_coins_173 5 rfl ?_
                            refine kw_bipush X dL_coins_175 cb_m9 ?_
                            refine kw_icmp_eq X 294 dL_coins_177 (by decide) (fun q367 => ?_) (fun q367 => ?_)
                            · replace hF := (if_pos q367).symm.trans hF
                              refine kw_iinc (lo' := [(0, .ref h0), (1, .int (v1_302 + b319)), (2, .int (v2_303 + b320)), (3, .int (v3_304 + x322)), (4, .int (v4_305 + 1)), (5, .int b318), (6, .int b324)]) X dL_coins_294 4 rfl (congrArg (fun w => v4_305 + w) ci_1) (by decide) [1, 2, 3, 4, 0, 5, 6] rfl ?_
                              refine kw_goto X 9 dL_coins_297 (by decide) ?_
                              refine kw_loc (lo' := [(0, .ref h0), (1, .int (v1_302 + b319)), (2, .int (v2_303 + b320)), (3, .int (v3_304 + x322)), (4, .int (v4_305 + 1))]) [0, 1, 2, 3, 4] rfl ?_
                              exact ih9 _ _ _ _ hF
                            · replace hF := (if_neg q367).symm.trans hF
                              refine kw_iload X dL_coins_180 6 rfl ?_
                              refine kw_aload_n X dL_coins_182 rfl 0 rfl ?_
                              refine kw_iload X dL_coins_183 4 rfl ?_
                              refine kw_iconst X dL_coins_185 ci_2 ?_
                              obtain ⟨b368, hx368, hF⟩ := ob1_ex hF
                              refine kb_ap X (r := .int b368) (As := [.int v4_305, .int 2]) (st := [.int b324]) (cm_person l D cI cC cR h0 h1 t0 t1 a b d ah v v4_305 2 Z b368 hx368) vl_L_21 yv_X6_person ⟨Nat.le_of_ble_eq_true rfl, Nat.le_of_ble_eq_true rfl⟩ ⟨rfl, rfl⟩ ⟨Nat.le_of_ble_eq_true rfl, Nat.le_of_ble_eq_true rfl⟩ 0 0 rfl bO_0 rfl rfl rfl (Nat.le_of_ble_eq_true rfl) dL_coins_186 ?_
                              refine kw_aload_n X dL_coins_189 rfl 0 rfl ?_
                              refine kw_bipush X dL_coins_190 cb_14 ?_
                              obtain ⟨b369, hx369, hF⟩ := ob1_ex hF
                              refine kb_ap X (r := .int b369) (As := [.int 14]) (st := [.int b368, .int b324]) (cm_count l D cI cC cR h0 h1 t0 t1 a b d ah v 14 Z b369 hx369) vl_L_9 yv_X6_count ⟨Nat.le_of_ble_eq_true rfl, Nat.le_of_ble_eq_true rfl⟩ ⟨rfl, rfl⟩ ⟨Nat.le_of_ble_eq_true rfl, Nat.le_of_ble_eq_true rfl⟩ 0 0 rfl bO_0 rfl rfl rfl (Nat.le_of_ble_eq_true rfl) dL_coins_192 ?_
                              refine kw_imul X dL_coins_195 ?_
                              refine kw_iconst X dL_coins_196 ci_4 ?_
                              refine kw_aload_n X dL_coins_197 rfl 0 rfl ?_
                              refine kw_iload X dL_coins_198 4 rfl ?_
                              refine kw_iconst X dL_coins_200 ci_3 ?_
                              obtain ⟨b370, hx370, hF⟩ := ob1_ex hF
                              refine kb_ap X (r := .int b370) (As := [.int v4_305, .int 3]) (st := [.int 4, .int (b368 * b369), .int b324]) (cm_person l D cI cC cR h0 h1 t0 t1 a b d ah v v4_305 3 Z b370 hx370) vl_L_21 yv_X6_person ⟨Nat.le_of_ble_eq_true rfl, Nat.le_of_ble_eq_true rfl⟩ ⟨rfl, rfl⟩ ⟨Nat.le_of_ble_eq_true rfl, Nat.le_of_ble_eq_true rfl⟩ 0 0 rfl bO_0 rfl rfl rfl (Nat.le_of_ble_eq_true rfl) dL_coins_201 ?_
                              refine kw_imul X dL_coins_204 ?_
                              refine kw_iadd X dL_coins_205 ?_
                              refine kw_bipush X dL_coins_206 cb_10 ?_
                              obtain ⟨x375, hx376, hF⟩ := ob1_ex hF
                              have J : KW Γ 0 0 (wj [bO cI cC cR h0 h1 t0 t1 a b d ah v]) [(0, .ref h0), (1, .int (v1_302 + b319)), (2, .int (v2_303 + b320)), (3, .int (v3_304 + x322)), (4, .int v4_305), (5, .int b318), (6, .int b324)] 240 [.int x375, .int b324] := by
                                refine kw_icmp_ne X 292 dL_coins_240 (by decide) (fun q377 => ?_) (fun q377 => ?_)
                                · replace hF := (if_neg q377).symm.trans hF
                                  refine kw_iconst X dL_coins_292 ci_0 ?_
                                  obtain rfl := si1 hF
                                  refine kb_first ?_
                                  exact hret _ _ rfl dL_coins_293
                                · replace hF := (if_pos q377).symm.trans hF
                                  refine kw_aload_n X dL_coins_243 rfl 0 rfl ?_
                                  refine kw_iload X dL_coins_244 4 rfl ?_
                                  refine kw_bipush X dL_coins_246 cb_7 ?_
                                  refine kw_iconst X dL_coins_248 ci_4 ?_
                                  obtain ⟨b378, hx378, hF⟩ := ob1_ex hF
                                  refine kb_ap X (r := .int b378) (As := [.int v4_305, .int 7, .int 4]) (st := []) (cm_feeIn l D cI cC cR h0 h1 t0 t1 a b d ah v v4_305 7 4 Z b378 hx378) vl_L_27 yv_X6_feeIn ⟨Nat.le_of_ble_eq_true rfl, Nat.le_of_ble_eq_true rfl⟩ ⟨rfl, rfl⟩ ⟨Nat.le_of_ble_eq_true rfl, Nat.le_of_ble_eq_true rfl⟩ 0 0 rfl bO_0 rfl rfl rfl (Nat.le_of_ble_eq_true rfl) dL_coins_249 ?_
                                  refine kw_iload X dL_coins_252 6 rfl ?_
                                  refine kw_icmp_lt X 292 dL_coins_254 (by decide) (fun q379 => ?_) (fun q379 => ?_)
                                  · replace hF := (if_pos q379).symm.trans hF
                                    refine kw_iconst X dL_coins_292 ci_0 ?_
                                    obtain rfl := si1 hF
                                    refine kb_first ?_
                                    exact hret _ _ rfl dL_coins_293
                                  · replace hF := (if_neg q379).symm.trans hF
                                    refine kw_aload_n X dL_coins_257 rfl 0 rfl ?_
                                    refine kw_iload X dL_coins_258 4 rfl ?_
                                    refine kw_iconst X dL_coins_260 ci_3 ?_
                                    refine kw_iconst X dL_coins_261 ci_1 ?_
                                    obtain ⟨b380, hx380, hF⟩ := ob1_ex hF
                                    refine kb_ap X (r := .int b380) (As := [.int v4_305, .int 3, .int 1]) (st := []) (cm_breaksIn l D cI cC cR h0 h1 t0 t1 a b d ah v v4_305 3 1 Z b380 hx380) vl_L_31 yv_X6_breaksIn ⟨Nat.le_of_ble_eq_true rfl, Nat.le_of_ble_eq_true rfl⟩ ⟨rfl, rfl⟩ ⟨Nat.le_of_ble_eq_true rfl, Nat.le_of_ble_eq_true rfl⟩ 0 0 rfl bO_0 rfl rfl rfl (Nat.le_of_ble_eq_true rfl) dL_coins_262 ?_
                                    obtain ⟨x382, hx383, hF⟩ := pl1_ex hF
                                    have J : KW Γ 0 0 (wj [bO cI cC cR h0 h1 t0 t1 a b d ah v]) [(0, .ref h0), (1, .int (v1_302 + b319)), (2, .int (v2_303 + b320)), (3, .int (v3_304 + x322)), (4, .int v4_305), (5, .int b318)] 273 [.int x382] := by
                                      refine kw_aload_n X dL_coins_273 rfl 0 rfl ?_
                                      refine kw_iload X dL_coins_274 5 rfl ?_
                                      refine kw_iconst X dL_coins_276 ci_3 ?_
                                      obtain ⟨b384, hx384, hF⟩ := ob1_ex hF
                                      refine kb_ap X (r := .int b384) (As := [.int b318, .int 3]) (st := [.int x382]) (cm_umbrella l D cI cC cR h0 h1 t0 t1 a b d ah v b318 3 b384 hx384) vl_L_15 yv_X6_umbrella ⟨Nat.le_of_ble_eq_true rfl, Nat.le_of_ble_eq_true rfl⟩ ⟨rfl, rfl⟩ ⟨Nat.le_of_ble_eq_true rfl, Nat.le_of_ble_eq_true rfl⟩ 0 0 rfl bO_0 rfl rfl rfl (Nat.le_of_ble_eq_true rfl) dL_coins_277 ?_
                                      refine kw_iconst X dL_coins_280 ci_1 ?_
                                      obtain ⟨x386, hx387, hF⟩ := pl1_ex hF
                                      have J : KW Γ 0 0 (wj [bO cI cC cR h0 h1 t0 t1 a b d ah v]) [(0, .ref h0), (1, .int (v1_302 + b319)), (2, .int (v2_303 + b320)), (3, .int (v3_304 + x322)), (4, .int v4_305)] 289 [.int x386, .int x382] := by
                                        refine kw_icmp_eq X 294 dL_coins_289 (by decide) (fun q388 => ?_) (fun q388 => ?_)
                                        · replace hF := (if_pos q388).symm.trans hF
                                          refine kw_iinc (lo' := [(0, .ref h0), (1, .int (v1_302 + b319)), (2, .int (v2_303 + b320)), (3, .int (v3_304 + x322)), (4, .int (v4_305 + 1))]) X dL_coins_294 4 rfl (congrArg (fun w => v4_305 + w) ci_1) (by decide) [1, 2, 3, 4, 0] rfl ?_
                                          refine kw_goto X 9 dL_coins_297 (by decide) ?_
                                          exact ih9 _ _ _ _ hF
                                        · replace hF := (if_neg q388).symm.trans hF
                                          refine kw_iconst X dL_coins_292 ci_0 ?_
                                          obtain rfl := si1 hF
                                          refine kb_first ?_
                                          exact hret _ _ rfl dL_coins_293
                                      replace hF := hx387
                                      refine kw_icmp_ne X 288 dL_coins_281 (by decide) (fun q385 => ?_) (fun q385 => ?_)
                                      · replace hF := (if_neg q385).symm.trans hF
                                        refine kw_iconst X dL_coins_288 ci_0 ?_
                                        refine kw_loc (lo' := [(0, .ref h0), (1, .int (v1_302 + b319)), (2, .int (v2_303 + b320)), (3, .int (v3_304 + x322)), (4, .int v4_305)]) [0, 1, 2, 3, 4] rfl ?_
                                        obtain rfl := ti1 hF
                                        exact J
                                      · replace hF := (if_pos q385).symm.trans hF
                                        refine kw_iconst X dL_coins_284 ci_1 ?_
                                        refine kw_goto X 289 dL_coins_285 (by decide) ?_
                                        refine kw_loc (lo' := [(0, .ref h0), (1, .int (v1_302 + b319)), (2, .int (v2_303 + b320)), (3, .int (v3_304 + x322)), (4, .int v4_305)]) [0, 1, 2, 3, 4] rfl ?_
                                        obtain rfl := ti1 hF
                                        exact J
                                    replace hF := hx383
                                    refine kw_if_ne X 272 dL_coins_265 (by decide) (fun q381 => ?_) (fun q381 => ?_)
                                    · replace hF := (if_neg q381).symm.trans hF
                                      refine kw_iconst X dL_coins_272 ci_0 ?_
                                      refine kw_loc (lo' := [(0, .ref h0), (1, .int (v1_302 + b319)), (2, .int (v2_303 + b320)), (3, .int (v3_304 + x322)), (4, .int v4_305), (5, .int b318)]) [0, 1, 2, 3, 4, 5] rfl ?_
                                      obtain rfl := ti1 hF
                                      exact J
                                    · replace hF := (if_pos q381).symm.trans hF
                                      refine kw_iconst X dL_coins_268 ci_1 ?_
                                      refine kw_goto X 273 dL_coins_269 (by decide) ?_
                                      refine kw_loc (lo' := [(0, .ref h0), (1, .int (v1_302 + b319)), (2, .int (v2_303 + b320)), (3, .int (v3_304 + x322)), (4, .int v4_305), (5, .int b318)]) [0, 1, 2, 3, 4, 5] rfl ?_
                                      obtain rfl := ti1 hF
                                      exact J
                              replace hF := hx376
                              refine kw_icmp_le X 216 dL_coins_208 (by decide) (fun q371 => ?_) (fun q371 => ?_)
                              · replace hF := (if_neg q371).symm.trans hF
                                refine kw_aload_n X dL_coins_216 rfl 0 rfl ?_
                                refine kw_iload X dL_coins_217 4 rfl ?_
                                refine kw_iconst X dL_coins_219 ci_2 ?_
                                obtain ⟨b389, hx389, hF⟩ := ob1_ex hF
                                refine kb_ap X (r := .int b389) (As := [.int v4_305, .int 2]) (st := [.int b324]) (cm_person l D cI cC cR h0 h1 t0 t1 a b d ah v v4_305 2 Z b389 hx389) vl_L_21 yv_X6_person ⟨Nat.le_of_ble_eq_true rfl, Nat.le_of_ble_eq_true rfl⟩ ⟨rfl, rfl⟩ ⟨Nat.le_of_ble_eq_true rfl, Nat.le_of_ble_eq_true rfl⟩ 0 0 rfl bO_0 rfl rfl rfl (Nat.le_of_ble_eq_true rfl) dL_coins_220 ?_
                                refine kw_aload_n X dL_coins_223 rfl 0 rfl ?_
                                refine kw_bipush X dL_coins_224 cb_14 ?_
                                obtain ⟨b390, hx390, hF⟩ := ob1_ex hF
                                refine kb_ap X (r := .int b390) (As := [.int 14]) (st := [.int b389, .int b324]) (cm_count l D cI cC cR h0 h1 t0 t1 a b d ah v 14 Z b390 hx390) vl_L_9 yv_X6_count ⟨Nat.le_of_ble_eq_true rfl, Nat.le_of_ble_eq_true rfl⟩ ⟨rfl, rfl⟩ ⟨Nat.le_of_ble_eq_true rfl, Nat.le_of_ble_eq_true rfl⟩ 0 0 rfl bO_0 rfl rfl rfl (Nat.le_of_ble_eq_true rfl) dL_coins_226 ?_
                                refine kw_imul X dL_coins_229 ?_
                                refine kw_iconst X dL_coins_230 ci_4 ?_
                                refine kw_aload_n X dL_coins_231 rfl 0 rfl ?_
                                refine kw_iload X dL_coins_232 4 rfl ?_
                                refine kw_iconst X dL_coins_234 ci_3 ?_
                                obtain ⟨b391, hx391, hF⟩ := ob1_ex hF
                                refine kb_ap X (r := .int b391) (As := [.int v4_305, .int 3]) (st := [.int 4, .int (b389 * b390), .int b324]) (cm_person l D cI cC cR h0 h1 t0 t1 a b d ah v v4_305 3 Z b391 hx391) vl_L_21 yv_X6_person ⟨Nat.le_of_ble_eq_true rfl, Nat.le_of_ble_eq_true rfl⟩ ⟨rfl, rfl⟩ ⟨Nat.le_of_ble_eq_true rfl, Nat.le_of_ble_eq_true rfl⟩ 0 0 rfl bO_0 rfl rfl rfl (Nat.le_of_ble_eq_true rfl) dL_coins_235 ?_
                                refine kw_imul X dL_coins_238 ?_
                                refine kw_iadd X dL_coins_239 ?_
                                obtain rfl := si1 hF
                                exact J
                              · replace hF := (if_pos q371).symm.trans hF
                                refine kw_bipush X dL_coins_211 cb_10 ?_
                                refine kw_goto X 240 dL_coins_213 (by decide) ?_
                                obtain rfl := si1 hF
                                exact J
                          · replace hF := (if_pos q366).symm.trans hF
                            refine kw_iconst X dL_coins_171 ci_0 ?_
                            obtain rfl := si1 hF
                            refine kb_first ?_
                            exact hret _ _ rfl dL_coins_172
                replace hF := hx333
                refine kw_icmp_ne X 133 dL_coins_126 (by decide) (fun q331 => ?_) (fun q331 => ?_)
                · replace hF := (if_neg q331).symm.trans hF
                  refine kw_iconst X dL_coins_133 ci_0 ?_
                  obtain rfl := ti1 hF
                  exact J
                · replace hF := (if_pos q331).symm.trans hF
                  refine kw_iconst X dL_coins_129 ci_1 ?_
                  refine kw_goto X 134 dL_coins_130 (by decide) ?_
                  obtain rfl := ti1 hF
                  exact J
              replace hF := hx330
              refine kw_icmp_ne X 121 dL_coins_114 (by decide) (fun q328 => ?_) (fun q328 => ?_)
              · replace hF := (if_neg q328).symm.trans hF
                refine kw_iconst X dL_coins_121 ci_0 ?_
                obtain rfl := ti1 hF
                exact J
              · replace hF := (if_pos q328).symm.trans hF
                refine kw_iconst X dL_coins_117 ci_1 ?_
                refine kw_goto X 122 dL_coins_118 (by decide) ?_
                obtain rfl := ti1 hF
                exact J
            · replace hF := (if_neg q327).symm.trans hF
              refine kw_aload_n X dL_coins_87 rfl 0 rfl ?_
              refine kw_iload X dL_coins_88 5 rfl ?_
              refine kw_iconst X dL_coins_90 ci_0 ?_
              obtain ⟨b392, hx392, hF⟩ := ob1_ex hF
              refine kb_ap X (r := .int b392) (As := [.int b318, .int 0]) (st := []) (cm_umbrella l D cI cC cR h0 h1 t0 t1 a b d ah v b318 0 b392 hx392) vl_L_15 yv_X6_umbrella ⟨Nat.le_of_ble_eq_true rfl, Nat.le_of_ble_eq_true rfl⟩ ⟨rfl, rfl⟩ ⟨Nat.le_of_ble_eq_true rfl, Nat.le_of_ble_eq_true rfl⟩ 0 0 rfl bO_0 rfl rfl rfl (Nat.le_of_ble_eq_true rfl) dL_coins_91 ?_
              refine kw_iconst X dL_coins_94 ci_1 ?_
              refine kw_icmp_ne X 171 dL_coins_95 (by decide) (fun q393 => ?_) (fun q393 => ?_)
              · replace hF := (if_neg q393).symm.trans hF
                refine kw_iconst X dL_coins_171 ci_0 ?_
                obtain rfl := si1 hF
                refine kb_first ?_
                exact hret _ _ rfl dL_coins_172
              · replace hF := (if_pos q393).symm.trans hF
                refine kw_aload_n X dL_coins_98 rfl 0 rfl ?_
                refine kw_iload X dL_coins_99 5 rfl ?_
                refine kw_iconst X dL_coins_101 ci_1 ?_
                obtain ⟨b394, hx394, hF⟩ := ob1_ex hF
                refine kb_ap X (r := .int b394) (As := [.int b318, .int 1]) (st := []) (cm_umbrella l D cI cC cR h0 h1 t0 t1 a b d ah v b318 1 b394 hx394) vl_L_15 yv_X6_umbrella ⟨Nat.le_of_ble_eq_true rfl, Nat.le_of_ble_eq_true rfl⟩ ⟨rfl, rfl⟩ ⟨Nat.le_of_ble_eq_true rfl, Nat.le_of_ble_eq_true rfl⟩ 0 0 rfl bO_0 rfl rfl rfl (Nat.le_of_ble_eq_true rfl) dL_coins_102 ?_
                refine kw_iload X dL_coins_105 4 rfl ?_
                refine kw_icmp_ne X 171 dL_coins_107 (by decide) (fun q395 => ?_) (fun q395 => ?_)
                · replace hF := (if_neg q395).symm.trans hF
                  refine kw_iconst X dL_coins_171 ci_0 ?_
                  obtain rfl := si1 hF
                  refine kb_first ?_
                  exact hret _ _ rfl dL_coins_172
                · replace hF := (if_pos q395).symm.trans hF
                  refine kw_iload X dL_coins_110 5 rfl ?_
                  refine kw_bipush X dL_coins_112 cb_m9 ?_
                  obtain ⟨x397, hx398, hF⟩ := pl1_ex hF
                  have J : KW Γ 0 0 (wj [bO cI cC cR h0 h1 t0 t1 a b d ah v]) [(0, .ref h0), (1, .int (v1_302 + b319)), (2, .int (v2_303 + b320)), (3, .int (v3_304 + x322)), (4, .int v4_305), (5, .int b318), (6, .int b324)] 122 [.int x397] := by
                    refine kw_iload X dL_coins_122 6 rfl ?_
                    refine kw_bipush X dL_coins_124 cb_m2 ?_
                    obtain ⟨x400, hx401, hF⟩ := pl1_ex hF
                    have J : KW Γ 0 0 (wj [bO cI cC cR h0 h1 t0 t1 a b d ah v]) [(0, .ref h0), (1, .int (v1_302 + b319)), (2, .int (v2_303 + b320)), (3, .int (v3_304 + x322)), (4, .int v4_305), (5, .int b318), (6, .int b324)] 134 [.int x400, .int x397] := by
                      refine kw_icmp_ne X 171 dL_coins_134 (by decide) (fun q402 => ?_) (fun q402 => ?_)
                      · replace hF := (if_neg q402).symm.trans hF
                        refine kw_iconst X dL_coins_171 ci_0 ?_
                        obtain rfl := si1 hF
                        refine kb_first ?_
                        exact hret _ _ rfl dL_coins_172
                      · replace hF := (if_pos q402).symm.trans hF
                        refine kw_iload X dL_coins_137 5 rfl ?_
                        refine kw_bipush X dL_coins_139 cb_m9 ?_
                        refine kw_icmp_ne X 164 dL_coins_141 (by decide) (fun q403 => ?_) (fun q403 => ?_)
                        · replace hF := (if_neg q403).symm.trans hF
                          refine kw_iload X dL_coins_164 6 rfl ?_
                          refine kw_bipush X dL_coins_166 cb_10 ?_
                          refine kw_icmp_le X 173 dL_coins_168 (by decide) (fun q404 => ?_) (fun q404 => ?_)
                          · replace hF := (if_neg q404).symm.trans hF
                            refine kw_iload X dL_coins_173 5 rfl ?_
                            refine kw_bipush X dL_coins_175 cb_m9 ?_
                            refine kw_icmp_eq X 294 dL_coins_177 (by decide) (fun q405 => ?_) (fun q405 => ?_)
                            · replace hF := (if_pos q405).symm.trans hF
                              refine kw_iinc (lo' := [(0, .ref h0), (1, .int (v1_302 + b319)), (2, .int (v2_303 + b320)), (3, .int (v3_304 + x322)), (4, .int (v4_305 + 1)), (5, .int b318), (6, .int b324)]) X dL_coins_294 4 rfl (congrArg (fun w => v4_305 + w) ci_1) (by decide) [1, 2, 3, 4, 0, 5, 6] rfl ?_
                              refine kw_goto X 9 dL_coins_297 (by decide) ?_
                              refine kw_loc (lo' := [(0, .ref h0), (1, .int (v1_302 + b319)), (2, .int (v2_303 + b320)), (3, .int (v3_304 + x322)), (4, .int (v4_305 + 1))]) [0, 1, 2, 3, 4] rfl ?_
                              exact ih9 _ _ _ _ hF
                            · replace hF := (if_neg q405).symm.trans hF
                              refine kw_iload X dL_coins_180 6 rfl ?_
                              refine kw_aload_n X dL_coins_182 rfl 0 rfl ?_
                              refine kw_iload X dL_coins_183 4 rfl ?_
                              refine kw_iconst X dL_coins_185 ci_2 ?_
                              obtain ⟨b406, hx406, hF⟩ := ob1_ex hF
                              refine kb_ap X (r := .int b406) (As := [.int v4_305, .int 2]) (st := [.int b324]) (cm_person l D cI cC cR h0 h1 t0 t1 a b d ah v v4_305 2 Z b406 hx406) vl_L_21 yv_X6_person ⟨Nat.le_of_ble_eq_true rfl, Nat.le_of_ble_eq_true rfl⟩ ⟨rfl, rfl⟩ ⟨Nat.le_of_ble_eq_true rfl, Nat.le_of_ble_eq_true rfl⟩ 0 0 rfl bO_0 rfl rfl rfl (Nat.le_of_ble_eq_true rfl) dL_coins_186 ?_
                              refine kw_aload_n X dL_coins_189 rfl 0 rfl ?_
                              refine kw_bipush X dL_coins_190 cb_14 ?_
                              obtain ⟨b407, hx407, hF⟩ := ob1_ex hF
                              refine kb_ap X (r := .int b407) (As := [.int 14]) (st := [.int b406, .int b324]) (cm_count l D cI cC cR h0 h1 t0 t1 a b d ah v 14 Z b407 hx407) vl_L_9 yv_X6_count ⟨Nat.le_of_ble_eq_true rfl, Nat.le_of_ble_eq_true rfl⟩ ⟨rfl, rfl⟩ ⟨Nat.le_of_ble_eq_true rfl, Nat.le_of_ble_eq_true rfl⟩ 0 0 rfl bO_0 rfl rfl rfl (Nat.le_of_ble_eq_true rfl) dL_coins_192 ?_
                              refine kw_imul X dL_coins_195 ?_
                              refine kw_iconst X dL_coins_196 ci_4 ?_
                              refine kw_aload_n X dL_coins_197 rfl 0 rfl ?_
                              refine kw_iload X dL_coins_198 4 rfl ?_
                              refine kw_iconst X dL_coins_200 ci_3 ?_
                              obtain ⟨b408, hx408, hF⟩ := ob1_ex hF
                              refine kb_ap X (r := .int b408) (As := [.int v4_305, .int 3]) (st := [.int 4, .int (b406 * b407), .int b324]) (cm_person l D cI cC cR h0 h1 t0 t1 a b d ah v v4_305 3 Z b408 hx408) vl_L_21 yv_X6_person ⟨Nat.le_of_ble_eq_true rfl, Nat.le_of_ble_eq_true rfl⟩ ⟨rfl, rfl⟩ ⟨Nat.le_of_ble_eq_true rfl, Nat.le_of_ble_eq_true rfl⟩ 0 0 rfl bO_0 rfl rfl rfl (Nat.le_of_ble_eq_true rfl) dL_coins_201 ?_
                              refine kw_imul X dL_coins_204 ?_
                              refine kw_iadd X dL_coins_205 ?_
                              refine kw_bipush X dL_coins_206 cb_10 ?_
                              obtain ⟨x413, hx414, hF⟩ := ob1_ex hF
                              have J : KW Γ 0 0 (wj [bO cI cC cR h0 h1 t0 t1 a b d ah v]) [(0, .ref h0), (1, .int (v1_302 + b319)), (2, .int (v2_303 + b320)), (3, .int (v3_304 + x322)), (4, .int v4_305), (5, .int b318), (6, .int b324)] 240 [.int x413, .int b324] := by
                                refine kw_icmp_ne X 292 dL_coins_240 (by decide) (fun q415 => ?_) (fun q415 => ?_)
                                · replace hF := (if_neg q415).symm.trans hF
                                  refine kw_iconst X dL_coins_292 ci_0 ?_
                                  obtain rfl := si1 hF
                                  refine kb_first ?_
                                  exact hret _ _ rfl dL_coins_293
                                · replace hF := (if_pos q415).symm.trans hF
                                  refine kw_aload_n X dL_coins_243 rfl 0 rfl ?_
                                  refine kw_iload X dL_coins_244 4 rfl ?_
                                  refine kw_bipush X dL_coins_246 cb_7 ?_
                                  refine kw_iconst X dL_coins_248 ci_4 ?_
                                  obtain ⟨b416, hx416, hF⟩ := ob1_ex hF
                                  refine kb_ap X (r := .int b416) (As := [.int v4_305, .int 7, .int 4]) (st := []) (cm_feeIn l D cI cC cR h0 h1 t0 t1 a b d ah v v4_305 7 4 Z b416 hx416) vl_L_27 yv_X6_feeIn ⟨Nat.le_of_ble_eq_true rfl, Nat.le_of_ble_eq_true rfl⟩ ⟨rfl, rfl⟩ ⟨Nat.le_of_ble_eq_true rfl, Nat.le_of_ble_eq_true rfl⟩ 0 0 rfl bO_0 rfl rfl rfl (Nat.le_of_ble_eq_true rfl) dL_coins_249 ?_
                                  refine kw_iload X dL_coins_252 6 rfl ?_
                                  refine kw_icmp_lt X 292 dL_coins_254 (by decide) (fun q417 => ?_) (fun q417 => ?_)
                                  · replace hF := (if_pos q417).symm.trans hF
                                    refine kw_iconst X dL_coins_292 ci_0 ?_
                                    obtain rfl := si1 hF
                                    refine kb_first ?_
                                    exact hret _ _ rfl dL_coins_293
                                  · replace hF := (if_neg q417).symm.trans hF
                                    refine kw_aload_n X dL_coins_257 rfl 0 rfl ?_
                                    refine kw_iload X dL_coins_258 4 rfl ?_
                                    refine kw_iconst X dL_coins_260 ci_3 ?_
                                    refine kw_iconst X dL_coins_261 ci_1 ?_
                                    obtain ⟨b418, hx418, hF⟩ := ob1_ex hF
                                    refine kb_ap X (r := .int b418) (As := [.int v4_305, .int 3, .int 1]) (st := []) (cm_breaksIn l D cI cC cR h0 h1 t0 t1 a b d ah v v4_305 3 1 Z b418 hx418) vl_L_31 yv_X6_breaksIn ⟨Nat.le_of_ble_eq_true rfl, Nat.le_of_ble_eq_true rfl⟩ ⟨rfl, rfl⟩ ⟨Nat.le_of_ble_eq_true rfl, Nat.le_of_ble_eq_true rfl⟩ 0 0 rfl bO_0 rfl rfl rfl (Nat.le_of_ble_eq_true rfl) dL_coins_262 ?_
                                    obtain ⟨x420, hx421, hF⟩ := pl1_ex hF
                                    have J : KW Γ 0 0 (wj [bO cI cC cR h0 h1 t0 t1 a b d ah v]) [(0, .ref h0), (1, .int (v1_302 + b319)), (2, .int (v2_303 + b320)), (3, .int (v3_304 + x322)), (4, .int v4_305), (5, .int b318)] 273 [.int x420] := by
                                      refine kw_aload_n X dL_coins_273 rfl 0 rfl ?_
                                      refine kw_iload X dL_coins_274 5 rfl ?_
                                      refine kw_iconst X dL_coins_276 ci_3 ?_
                                      obtain ⟨b422, hx422, hF⟩ := ob1_ex hF
                                      refine kb_ap X (r := .int b422) (As := [.int b318, .int 3]) (st := [.int x420]) (cm_umbrella l D cI cC cR h0 h1 t0 t1 a b d ah v b318 3 b422 hx422) vl_L_15 yv_X6_umbrella ⟨Nat.le_of_ble_eq_true rfl, Nat.le_of_ble_eq_true rfl⟩ ⟨rfl, rfl⟩ ⟨Nat.le_of_ble_eq_true rfl, Nat.le_of_ble_eq_true rfl⟩ 0 0 rfl bO_0 rfl rfl rfl (Nat.le_of_ble_eq_true rfl) dL_coins_277 ?_
                                      refine kw_iconst X dL_coins_280 ci_1 ?_
                                      obtain ⟨x424, hx425, hF⟩ := pl1_ex hF
                                      have J : KW Γ 0 0 (wj [bO cI cC cR h0 h1 t0 t1 a b d ah v]) [(0, .ref h0), (1, .int (v1_302 + b319)), (2, .int (v2_303 + b320)), (3, .int (v3_304 + x322)), (4, .int v4_305)] 289 [.int x424, .int x420] := by
                                        refine kw_icmp_eq X 294 dL_coins_289 (by decide) (fun q426 => ?_) (fun q426 => ?_)
                                        · replace hF := (if_pos q426).symm.trans hF
                                          refine kw_iinc (lo' := [(0, .ref h0), (1, .int (v1_302 + b319)), (2, .int (v2_303 + b320)), (3, .int (v3_304 + x322)), (4, .int (v4_305 + 1))]) X dL_coins_294 4 rfl (congrArg (fun w => v4_305 + w) ci_1) (by decide) [1, 2, 3, 4, 0] rfl ?_
                                          refine kw_goto X 9 dL_coins_297 (by decide) ?_
                                          exact ih9 _ _ _ _ hF
                                        · replace hF := (if_neg q426).symm.trans hF
                                          refine kw_iconst X dL_coins_292 ci_0 ?_
                                          obtain rfl := si1 hF
                                          refine kb_first ?_
                                          exact hret _ _ rfl dL_coins_293
                                      replace hF := hx425
                                      refine kw_icmp_ne X 288 dL_coins_281 (by decide) (fun q423 => ?_) (fun q423 => ?_)
                                      · replace hF := (if_neg q423).symm.trans hF
                                        refine kw_iconst X dL_coins_288 ci_0 ?_
                                        refine kw_loc (lo' := [(0, .ref h0), (1, .int (v1_302 + b319)), (2, .int (v2_303 + b320)), (3, .int (v3_304 + x322)), (4, .int v4_305)]) [0, 1, 2, 3, 4] rfl ?_
                                        obtain rfl := ti1 hF
                                        exact J
                                      · replace hF := (if_pos q423).symm.trans hF
                                        refine kw_iconst X dL_coins_284 ci_1 ?_
                                        refine kw_goto X 289 dL_coins_285 (by decide) ?_
                                        refine kw_loc (lo' := [(0, .ref h0), (1, .int (v1_302 + b319)), (2, .int (v2_303 + b320)), (3, .int (v3_304 + x322)), (4, .int v4_305)]) [0, 1, 2, 3, 4] rfl ?_
                                        obtain rfl := ti1 hF
                                        exact J
                                    replace hF := hx421
                                    refine kw_if_ne X 272 dL_coins_265 (by decide) (fun q419 => ?_) (fun q419 => ?_)
                                    · replace hF := (if_neg q419).symm.trans hF
                                      refine kw_iconst X dL_coins_272 ci_0 ?_
                                      refine kw_loc (lo' := [(0, .ref h0), (1, .int (v1_302 + b319)), (2, .int (v2_303 + b320)), (3, .int (v3_304 + x322)), (4, .int v4_305), (5, .int b318)]) [0, 1, 2, 3, 4, 5] rfl ?_
                                      obtain rfl := ti1 hF
                                      exact J
                                    · replace hF := (if_pos q419).symm.trans hF
                                      refine kw_iconst X dL_coins_268 ci_1 ?_
                                      refine kw_goto X 273 dL_coins_269 (by decide) ?_
                                      refine kw_loc (lo' := [(0, .ref h0), (1, .int (v1_302 + b319)), (2, .int (v2_303 + b320)), (3, .int (v3_304 + x322)), (4, .int v4_305), (5, .int b318)]) [0, 1, 2, 3, 4, 5] rfl ?_
                                      obtain rfl := ti1 hF
                                      exact J
                              replace hF := hx414
                              refine kw_icmp_le X 216 dL_coins_208 (by decide) (fun q409 => ?_) (fun q409 => ?_)
                              · replace hF := (if_neg q409).symm.trans hF
                                refine kw_aload_n X dL_coins_216 rfl 0 rfl ?_
                                refine kw_iload X dL_coins_217 4 rfl ?_
                                refine kw_iconst X dL_coins_219 ci_2 ?_
                                obtain ⟨b427, hx427, hF⟩ := ob1_ex hF
                                refine kb_ap X (r := .int b427) (As := [.int v4_305, .int 2]) (st := [.int b324]) (cm_person l D cI cC cR h0 h1 t0 t1 a b d ah v v4_305 2 Z b427 hx427) vl_L_21 yv_X6_person ⟨Nat.le_of_ble_eq_true rfl, Nat.le_of_ble_eq_true rfl⟩ ⟨rfl, rfl⟩ ⟨Nat.le_of_ble_eq_true rfl, Nat.le_of_ble_eq_true rfl⟩ 0 0 rfl bO_0 rfl rfl rfl (Nat.le_of_ble_eq_true rfl) dL_coins_220 ?_
                                refine kw_aload_n X dL_coins_223 rfl 0 rfl ?_
                                refine kw_bipush X dL_coins_224 cb_14 ?_
                                obtain ⟨b428, hx428, hF⟩ := ob1_ex hF
                                refine kb_ap X (r := .int b428) (As := [.int 14]) (st := [.int b427, .int b324]) (cm_count l D cI cC cR h0 h1 t0 t1 a b d ah v 14 Z b428 hx428) vl_L_9 yv_X6_count ⟨Nat.le_of_ble_eq_true rfl, Nat.le_of_ble_eq_true rfl⟩ ⟨rfl, rfl⟩ ⟨Nat.le_of_ble_eq_true rfl, Nat.le_of_ble_eq_true rfl⟩ 0 0 rfl bO_0 rfl rfl rfl (Nat.le_of_ble_eq_true rfl) dL_coins_226 ?_
                                refine kw_imul X dL_coins_229 ?_
                                refine kw_iconst X dL_coins_230 ci_4 ?_
                                refine kw_aload_n X dL_coins_231 rfl 0 rfl ?_
                                refine kw_iload X dL_coins_232 4 rfl ?_
                                refine kw_iconst X dL_coins_234 ci_3 ?_
                                obtain ⟨b429, hx429, hF⟩ := ob1_ex hF
                                refine kb_ap X (r := .int b429) (As := [.int v4_305, .int 3]) (st := [.int 4, .int (b427 * b428), .int b324]) (cm_person l D cI cC cR h0 h1 t0 t1 a b d ah v v4_305 3 Z b429 hx429) vl_L_21 yv_X6_person ⟨Nat.le_of_ble_eq_true rfl, Nat.le_of_ble_eq_true rfl⟩ ⟨rfl, rfl⟩ ⟨Nat.le_of_ble_eq_true rfl, Nat.le_of_ble_eq_true rfl⟩ 0 0 rfl bO_0 rfl rfl rfl (Nat.le_of_ble_eq_true rfl) dL_coins_235 ?_
                                refine kw_imul X dL_coins_238 ?_
                                refine kw_iadd X dL_coins_239 ?_
                                obtain rfl := si1 hF
                                exact J
                              · replace hF := (if_pos q409).symm.trans hF
                                refine kw_bipush X dL_coins_211 cb_10 ?_
                                refine kw_goto X 240 dL_coins_213 (by decide) ?_
                                obtain rfl := si1 hF
                                exact J
                          · replace hF := (if_pos q404).symm.trans hF
                            refine kw_iconst X dL_coins_171 ci_0 ?_
                            obtain rfl := si1 hF
                            refine kb_first ?_
                            exact hret _ _ rfl dL_coins_172
                        · replace hF := (if_pos q403).symm.trans hF
                          refine kw_aload_n X dL_coins_144 rfl 0 rfl ?_
                          refine kw_iload X dL_coins_145 4 rfl ?_
                          refine kw_iconst X dL_coins_147 ci_2 ?_
                          obtain ⟨b430, hx430, hF⟩ := ob1_ex hF
                          refine kb_ap X (r := .int b430) (As := [.int v4_305, .int 2]) (st := []) (cm_person l D cI cC cR h0 h1 t0 t1 a b d ah v v4_305 2 Z b430 hx430) vl_L_21 yv_X6_person ⟨Nat.le_of_ble_eq_true rfl, Nat.le_of_ble_eq_true rfl⟩ ⟨rfl, rfl⟩ ⟨Nat.le_of_ble_eq_true rfl, Nat.le_of_ble_eq_true rfl⟩ 0 0 rfl bO_0 rfl rfl rfl (Nat.le_of_ble_eq_true rfl) dL_coins_148 ?_
                          refine kw_if_ne X 171 dL_coins_151 (by decide) (fun q431 => ?_) (fun q431 => ?_)
                          · replace hF := (if_neg q431).symm.trans hF
                            refine kw_iconst X dL_coins_171 ci_0 ?_
                            obtain rfl := si1 hF
                            refine kb_first ?_
                            exact hret _ _ rfl dL_coins_172
                          · replace hF := (if_pos q431).symm.trans hF
                            refine kw_aload_n X dL_coins_154 rfl 0 rfl ?_
                            refine kw_iload X dL_coins_155 4 rfl ?_
                            refine kw_iconst X dL_coins_157 ci_3 ?_
                            obtain ⟨b432, hx432, hF⟩ := ob1_ex hF
                            refine kb_ap X (r := .int b432) (As := [.int v4_305, .int 3]) (st := []) (cm_person l D cI cC cR h0 h1 t0 t1 a b d ah v v4_305 3 Z b432 hx432) vl_L_21 yv_X6_person ⟨Nat.le_of_ble_eq_true rfl, Nat.le_of_ble_eq_true rfl⟩ ⟨rfl, rfl⟩ ⟨Nat.le_of_ble_eq_true rfl, Nat.le_of_ble_eq_true rfl⟩ 0 0 rfl bO_0 rfl rfl rfl (Nat.le_of_ble_eq_true rfl) dL_coins_158 ?_
                            refine kw_if_ne X 171 dL_coins_161 (by decide) (fun q433 => ?_) (fun q433 => ?_)
                            · replace hF := (if_neg q433).symm.trans hF
                              refine kw_iconst X dL_coins_171 ci_0 ?_
                              obtain rfl := si1 hF
                              refine kb_first ?_
                              exact hret _ _ rfl dL_coins_172
                            · replace hF := (if_pos q433).symm.trans hF
                              refine kw_iload X dL_coins_164 6 rfl ?_
                              refine kw_bipush X dL_coins_166 cb_10 ?_
                              refine kw_icmp_le X 173 dL_coins_168 (by decide) (fun q434 => ?_) (fun q434 => ?_)
                              · replace hF := (if_neg q434).symm.trans hF
                                refine kw_iload X dL_coins_173 5 rfl ?_
                                refine kw_bipush X dL_coins_175 cb_m9 ?_
                                refine kw_icmp_eq X 294 dL_coins_177 (by decide) (fun q435 => ?_) (fun q435 => ?_)
                                · replace hF := (if_pos q435).symm.trans hF
                                  refine kw_iinc (lo' := [(0, .ref h0), (1, .int (v1_302 + b319)), (2, .int (v2_303 + b320)), (3, .int (v3_304 + x322)), (4, .int (v4_305 + 1)), (5, .int b318), (6, .int b324)]) X dL_coins_294 4 rfl (congrArg (fun w => v4_305 + w) ci_1) (by decide) [1, 2, 3, 4, 0, 5, 6] rfl ?_
                                  refine kw_goto X 9 dL_coins_297 (by decide) ?_
                                  refine kw_loc (lo' := [(0, .ref h0), (1, .int (v1_302 + b319)), (2, .int (v2_303 + b320)), (3, .int (v3_304 + x322)), (4, .int (v4_305 + 1))]) [0, 1, 2, 3, 4] rfl ?_
                                  exact ih9 _ _ _ _ hF
                                · replace hF := (if_neg q435).symm.trans hF
                                  refine kw_iload X dL_coins_180 6 rfl ?_
                                  refine kw_aload_n X dL_coins_182 rfl 0 rfl ?_
                                  refine kw_iload X dL_coins_183 4 rfl ?_
                                  refine kw_iconst X dL_coins_185 ci_2 ?_
                                  obtain ⟨b436, hx436, hF⟩ := ob1_ex hF
                                  refine kb_ap X (r := .int b436) (As := [.int v4_305, .int 2]) (st := [.int b324]) (cm_person l D cI cC cR h0 h1 t0 t1 a b d ah v v4_305 2 Z b436 hx436) vl_L_21 yv_X6_person ⟨Nat.le_of_ble_eq_true rfl, Nat.le_of_ble_eq_true rfl⟩ ⟨rfl, rfl⟩ ⟨Nat.le_of_ble_eq_true rfl, Nat.le_of_ble_eq_true rfl⟩ 0 0 rfl bO_0 rfl rfl rfl (Nat.le_of_ble_eq_true rfl) dL_coins_186 ?_
                                  refine kw_aload_n X dL_coins_189 rfl 0 rfl ?_
                                  refine kw_bipush X dL_coins_190 cb_14 ?_
                                  obtain ⟨b437, hx437, hF⟩ := ob1_ex hF
                                  refine kb_ap X (r := .int b437) (As := [.int 14]) (st := [.int b436, .int b324]) (cm_count l D cI cC cR h0 h1 t0 t1 a b d ah v 14 Z b437 hx437) vl_L_9 yv_X6_count ⟨Nat.le_of_ble_eq_true rfl, Nat.le_of_ble_eq_true rfl⟩ ⟨rfl, rfl⟩ ⟨Nat.le_of_ble_eq_true rfl, Nat.le_of_ble_eq_true rfl⟩ 0 0 rfl bO_0 rfl rfl rfl (Nat.le_of_ble_eq_true rfl) dL_coins_192 ?_
                                  refine kw_imul X dL_coins_195 ?_
                                  refine kw_iconst X dL_coins_196 ci_4 ?_
                                  refine kw_aload_n X dL_coins_197 rfl 0 rfl ?_
                                  refine kw_iload X dL_coins_198 4 rfl ?_
                                  refine kw_iconst X dL_coins_200 ci_3 ?_
                                  obtain ⟨b438, hx438, hF⟩ := ob1_ex hF
                                  refine kb_ap X (r := .int b438) (As := [.int v4_305, .int 3]) (st := [.int 4, .int (b436 * b437), .int b324]) (cm_person l D cI cC cR h0 h1 t0 t1 a b d ah v v4_305 3 Z b438 hx438) vl_L_21 yv_X6_person ⟨Nat.le_of_ble_eq_true rfl, Nat.le_of_ble_eq_true rfl⟩ ⟨rfl, rfl⟩ ⟨Nat.le_of_ble_eq_true rfl, Nat.le_of_ble_eq_true rfl⟩ 0 0 rfl bO_0 rfl rfl rfl (Nat.le_of_ble_eq_true rfl) dL_coins_201 ?_
                                  refine kw_imul X dL_coins_204 ?_
                                  refine kw_iadd X dL_coins_205 ?_
                                  refine kw_bipush X dL_coins_206 cb_10 ?_
                                  obtain ⟨x443, hx444, hF⟩ := ob1_ex hF
                                  have J : KW Γ 0 0 (wj [bO cI cC cR h0 h1 t0 t1 a b d ah v]) [(0, .ref h0), (1, .int (v1_302 + b319)), (2, .int (v2_303 + b320)), (3, .int (v3_304 + x322)), (4, .int v4_305), (5, .int b318), (6, .int b324)] 240 [.int x443, .int b324] := by
                                    refine kw_icmp_ne X 292 dL_coins_240 (by decide) (fun q445 => ?_) (fun q445 => ?_)
                                    · replace hF := (if_neg q445).symm.trans hF
                                      refine kw_iconst X dL_coins_292 ci_0 ?_
                                      obtain rfl := si1 hF
                                      refine kb_first ?_
                                      exact hret _ _ rfl dL_coins_293
                                    · replace hF := (if_pos q445).symm.trans hF
                                      refine kw_aload_n X dL_coins_243 rfl 0 rfl ?_
                                      refine kw_iload X dL_coins_244 4 rfl ?_
                                      refine kw_bipush X dL_coins_246 cb_7 ?_
                                      refine kw_iconst X dL_coins_248 ci_4 ?_
                                      obtain ⟨b446, hx446, hF⟩ := ob1_ex hF
                                      refine kb_ap X (r := .int b446) (As := [.int v4_305, .int 7, .int 4]) (st := []) (cm_feeIn l D cI cC cR h0 h1 t0 t1 a b d ah v v4_305 7 4 Z b446 hx446) vl_L_27 yv_X6_feeIn ⟨Nat.le_of_ble_eq_true rfl, Nat.le_of_ble_eq_true rfl⟩ ⟨rfl, rfl⟩ ⟨Nat.le_of_ble_eq_true rfl, Nat.le_of_ble_eq_true rfl⟩ 0 0 rfl bO_0 rfl rfl rfl (Nat.le_of_ble_eq_true rfl) dL_coins_249 ?_
                                      refine kw_iload X dL_coins_252 6 rfl ?_
                                      refine kw_icmp_lt X 292 dL_coins_254 (by decide) (fun q447 => ?_) (fun q447 => ?_)
                                      · replace hF := (if_pos q447).symm.trans hF
                                        refine kw_iconst X dL_coins_292 ci_0 ?_
                                        obtain rfl := si1 hF
                                        refine kb_first ?_
                                        exact hret _ _ rfl dL_coins_293
                                      · replace hF := (if_neg q447).symm.trans hF
                                        refine kw_aload_n X dL_coins_257 rfl 0 rfl ?_
                                        refine kw_iload X dL_coins_258 4 rfl ?_
                                        refine kw_iconst X dL_coins_260 ci_3 ?_
                                        refine kw_iconst X dL_coins_261 ci_1 ?_
                                        obtain ⟨b448, hx448, hF⟩ := ob1_ex hF
                                        refine kb_ap X (r := .int b448) (As := [.int v4_305, .int 3, .int 1]) (st := []) (cm_breaksIn l D cI cC cR h0 h1 t0 t1 a b d ah v v4_305 3 1 Z b448 hx448) vl_L_31 yv_X6_breaksIn ⟨Nat.le_of_ble_eq_true rfl, Nat.le_of_ble_eq_true rfl⟩ ⟨rfl, rfl⟩ ⟨Nat.le_of_ble_eq_true rfl, Nat.le_of_ble_eq_true rfl⟩ 0 0 rfl bO_0 rfl rfl rfl (Nat.le_of_ble_eq_true rfl) dL_coins_262 ?_
                                        obtain ⟨x450, hx451, hF⟩ := pl1_ex hF
                                        have J : KW Γ 0 0 (wj [bO cI cC cR h0 h1 t0 t1 a b d ah v]) [(0, .ref h0), (1, .int (v1_302 + b319)), (2, .int (v2_303 + b320)), (3, .int (v3_304 + x322)), (4, .int v4_305), (5, .int b318)] 273 [.int x450] := by
                                          refine kw_aload_n X dL_coins_273 rfl 0 rfl ?_
                                          refine kw_iload X dL_coins_274 5 rfl ?_
                                          refine kw_iconst X dL_coins_276 ci_3 ?_
                                          obtain ⟨b452, hx452, hF⟩ := ob1_ex hF
                                          refine kb_ap X (r := .int b452) (As := [.int b318, .int 3]) (st := [.int x450]) (cm_umbrella l D cI cC cR h0 h1 t0 t1 a b d ah v b318 3 b452 hx452) vl_L_15 yv_X6_umbrella ⟨Nat.le_of_ble_eq_true rfl, Nat.le_of_ble_eq_true rfl⟩ ⟨rfl, rfl⟩ ⟨Nat.le_of_ble_eq_true rfl, Nat.le_of_ble_eq_true rfl⟩ 0 0 rfl bO_0 rfl rfl rfl (Nat.le_of_ble_eq_true rfl) dL_coins_277 ?_
                                          refine kw_iconst X dL_coins_280 ci_1 ?_
                                          obtain ⟨x454, hx455, hF⟩ := pl1_ex hF
                                          have J : KW Γ 0 0 (wj [bO cI cC cR h0 h1 t0 t1 a b d ah v]) [(0, .ref h0), (1, .int (v1_302 + b319)), (2, .int (v2_303 + b320)), (3, .int (v3_304 + x322)), (4, .int v4_305)] 289 [.int x454, .int x450] := by
                                            refine kw_icmp_eq X 294 dL_coins_289 (by decide) (fun q456 => ?_) (fun q456 => ?_)
                                            · replace hF := (if_pos q456).symm.trans hF
                                              refine kw_iinc (lo' := [(0, .ref h0), (1, .int (v1_302 + b319)), (2, .int (v2_303 + b320)), (3, .int (v3_304 + x322)), (4, .int (v4_305 + 1))]) X dL_coins_294 4 rfl (congrArg (fun w => v4_305 + w) ci_1) (by decide) [1, 2, 3, 4, 0] rfl ?_
                                              refine kw_goto X 9 dL_coins_297 (by decide) ?_
                                              exact ih9 _ _ _ _ hF
                                            · replace hF := (if_neg q456).symm.trans hF
                                              refine kw_iconst X dL_coins_292 ci_0 ?_
                                              obtain rfl := si1 hF
                                              refine kb_first ?_
                                              exact hret _ _ rfl dL_coins_293
                                          replace hF := hx455
                                          refine kw_icmp_ne X 288 dL_coins_281 (by decide) (fun q453 => ?_) (fun q453 => ?_)
                                          · replace hF := (if_neg q453).symm.trans hF
                                            refine kw_iconst X dL_coins_288 ci_0 ?_
                                            refine kw_loc (lo' := [(0, .ref h0), (1, .int (v1_302 + b319)), (2, .int (v2_303 + b320)), (3, .int (v3_304 + x322)), (4, .int v4_305)]) [0, 1, 2, 3, 4] rfl ?_
                                            obtain rfl := ti1 hF
                                            exact J
                                          · replace hF := (if_pos q453).symm.trans hF
                                            refine kw_iconst X dL_coins_284 ci_1 ?_
                                            refine kw_goto X 289 dL_coins_285 (by decide) ?_
                                            refine kw_loc (lo' := [(0, .ref h0), (1, .int (v1_302 + b319)), (2, .int (v2_303 + b320)), (3, .int (v3_304 + x322)), (4, .int v4_305)]) [0, 1, 2, 3, 4] rfl ?_
                                            obtain rfl := ti1 hF
                                            exact J
                                        replace hF := hx451
                                        refine kw_if_ne X 272 dL_coins_265 (by decide) (fun q449 => ?_) (fun q449 => ?_)
                                        · replace hF := (if_neg q449).symm.trans hF
                                          refine kw_iconst X dL_coins_272 ci_0 ?_
                                          refine kw_loc (lo' := [(0, .ref h0), (1, .int (v1_302 + b319)), (2, .int (v2_303 + b320)), (3, .int (v3_304 + x322)), (4, .int v4_305), (5, .int b318)]) [0, 1, 2, 3, 4, 5] rfl ?_
                                          obtain rfl := ti1 hF
                                          exact J
                                        · replace hF := (if_pos q449).symm.trans hF
                                          refine kw_iconst X dL_coins_268 ci_1 ?_
                                          refine kw_goto X 273 dL_coins_269 (by decide) ?_
                                          refine kw_loc (lo' := [(0, .ref h0), (1, .int (v1_302 + b319)), (2, .int (v2_303 + b320)), (3, .int (v3_304 + x322)), (4, .int v4_305), (5, .int b318)]) [0, 1, 2, 3, 4, 5] rfl ?_
                                          obtain rfl := ti1 hF
                                          exact J
                                  replace hF := hx444
                                  refine kw_icmp_le X 216 dL_coins_208 (by decide) (fun q439 => ?_) (fun q439 => ?_)
                                  · replace hF := (if_neg q439).symm.trans hF
                                    refine kw_aload_n X dL_coins_216 rfl 0 rfl ?_
                                    refine kw_iload X dL_coins_217 4 rfl ?_
                                    refine kw_iconst X dL_coins_219 ci_2 ?_
                                    obtain ⟨b457, hx457, hF⟩ := ob1_ex hF
                                    refine kb_ap X (r := .int b457) (As := [.int v4_305, .int 2]) (st := [.int b324]) (cm_person l D cI cC cR h0 h1 t0 t1 a b d ah v v4_305 2 Z b457 hx457) vl_L_21 yv_X6_person ⟨Nat.le_of_ble_eq_true rfl, Nat.le_of_ble_eq_true rfl⟩ ⟨rfl, rfl⟩ ⟨Nat.le_of_ble_eq_true rfl, Nat.le_of_ble_eq_true rfl⟩ 0 0 rfl bO_0 rfl rfl rfl (Nat.le_of_ble_eq_true rfl) dL_coins_220 ?_
                                    refine kw_aload_n X dL_coins_223 rfl 0 rfl ?_
                                    refine kw_bipush X dL_coins_224 cb_14 ?_
                                    obtain ⟨b458, hx458, hF⟩ := ob1_ex hF
                                    refine kb_ap X (r := .int b458) (As := [.int 14]) (st := [.int b457, .int b324]) (cm_count l D cI cC cR h0 h1 t0 t1 a b d ah v 14 Z b458 hx458) vl_L_9 yv_X6_count ⟨Nat.le_of_ble_eq_true rfl, Nat.le_of_ble_eq_true rfl⟩ ⟨rfl, rfl⟩ ⟨Nat.le_of_ble_eq_true rfl, Nat.le_of_ble_eq_true rfl⟩ 0 0 rfl bO_0 rfl rfl rfl (Nat.le_of_ble_eq_true rfl) dL_coins_226 ?_
                                    refine kw_imul X dL_coins_229 ?_
                                    refine kw_iconst X dL_coins_230 ci_4 ?_
                                    refine kw_aload_n X dL_coins_231 rfl 0 rfl ?_
                                    refine kw_iload X dL_coins_232 4 rfl ?_
                                    refine kw_iconst X dL_coins_234 ci_3 ?_
                                    obtain ⟨b459, hx459, hF⟩ := ob1_ex hF
                                    refine kb_ap X (r := .int b459) (As := [.int v4_305, .int 3]) (st := [.int 4, .int (b457 * b458), .int b324]) (cm_person l D cI cC cR h0 h1 t0 t1 a b d ah v v4_305 3 Z b459 hx459) vl_L_21 yv_X6_person ⟨Nat.le_of_ble_eq_true rfl, Nat.le_of_ble_eq_true rfl⟩ ⟨rfl, rfl⟩ ⟨Nat.le_of_ble_eq_true rfl, Nat.le_of_ble_eq_true rfl⟩ 0 0 rfl bO_0 rfl rfl rfl (Nat.le_of_ble_eq_true rfl) dL_coins_235 ?_
                                    refine kw_imul X dL_coins_238 ?_
                                    refine kw_iadd X dL_coins_239 ?_
                                    obtain rfl := si1 hF
                                    exact J
                                  · replace hF := (if_pos q439).symm.trans hF
                                    refine kw_bipush X dL_coins_211 cb_10 ?_
                                    refine kw_goto X 240 dL_coins_213 (by decide) ?_
                                    obtain rfl := si1 hF
                                    exact J
                              · replace hF := (if_pos q434).symm.trans hF
                                refine kw_iconst X dL_coins_171 ci_0 ?_
                                obtain rfl := si1 hF
                                refine kb_first ?_
                                exact hret _ _ rfl dL_coins_172
                    replace hF := hx401
                    refine kw_icmp_ne X 133 dL_coins_126 (by decide) (fun q399 => ?_) (fun q399 => ?_)
                    · replace hF := (if_neg q399).symm.trans hF
                      refine kw_iconst X dL_coins_133 ci_0 ?_
                      obtain rfl := ti1 hF
                      exact J
                    · replace hF := (if_pos q399).symm.trans hF
                      refine kw_iconst X dL_coins_129 ci_1 ?_
                      refine kw_goto X 134 dL_coins_130 (by decide) ?_
                      obtain rfl := ti1 hF
                      exact J
                  replace hF := hx398
                  refine kw_icmp_ne X 121 dL_coins_114 (by decide) (fun q396 => ?_) (fun q396 => ?_)
                  · replace hF := (if_neg q396).symm.trans hF
                    refine kw_iconst X dL_coins_121 ci_0 ?_
                    obtain rfl := ti1 hF
                    exact J
                  · replace hF := (if_pos q396).symm.trans hF
                    refine kw_iconst X dL_coins_117 ci_1 ?_
                    refine kw_goto X 122 dL_coins_118 (by decide) ?_
                    obtain rfl := ti1 hF
                    exact J
        replace hF := hx323
        refine kw_icmp_ne X 57 dL_coins_50 (by decide) (fun q321 => ?_) (fun q321 => ?_)
        · replace hF := (if_neg q321).symm.trans hF
          refine kw_iconst X dL_coins_57 ci_1 ?_
          refine kw_loc (lo' := [(0, .ref h0), (1, .int (v1_302 + b319)), (2, .int (v2_303 + b320)), (4, .int v4_305), (5, .int b318)]) [0, 1, 2, 4, 5] rfl ?_
          obtain rfl := ti1 hF
          exact J
        · replace hF := (if_pos q321).symm.trans hF
          refine kw_iconst X dL_coins_53 ci_0 ?_
          refine kw_goto X 58 dL_coins_54 (by decide) ?_
          refine kw_loc (lo' := [(0, .ref h0), (1, .int (v1_302 + b319)), (2, .int (v2_303 + b320)), (4, .int v4_305), (5, .int b318)]) [0, 1, 2, 4, 5] rfl ?_
          obtain rfl := ti1 hF
          exact J
  exact hL9 Z _ _ _ _ hF
