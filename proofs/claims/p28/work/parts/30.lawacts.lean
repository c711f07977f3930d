noncomputable def f_L_acts_L1229 (Z : Nat) (w14 : OV) : Nat → Int32 → Int32 → Int32 → Option (Int32 × Int32)
  | 0, _, _, _ => none
  | F + 1, v14_122, v15_123, v16_124 => (if v16_124 < 8 then (ob1 (m_stand Z w14 v16_124 1) (fun (b126 : Int32) => (ob1 (m_stand Z w14 v14_122 1) (fun (b127 : Int32) => (pl1 (if b127 < b126 then v16_124 else v14_122) (fun (x129 : Int32) => (ob1 (m_stand Z w14 v16_124 1) (fun (b131 : Int32) => (ob1 (m_stand Z w14 v16_124 0) (fun (b132 : Int32) => (ob1 (if b131 < b132 then (ob1 (m_stand Z w14 v16_124 1) (fun (b139 : Int32) => (if b139 < v15_123 then (ob1 (m_stand Z w14 v16_124 1) (fun (b141 : Int32) => (some b141))) else (some v15_123)))) else (some v15_123)) (fun (x137 : Int32) => (f_L_acts_L1229 Z w14 F x129 x137 (v16_124 + 1)))))))))))))) else (some (v14_122, v15_123)))
noncomputable def f_L_acts (Z : Nat) (v : OV) (p2 : Int32) (p3 : Int32) : Option (Int32 × OV) :=
  (ob1 (m_count Z v 1) (fun (b1 : Int32) => (ob1 (m_count Z v 8) (fun (b2 : Int32) => (ob1 (m_stand Z v (f_L_low p3 8) 1) (fun (b3 : Int32) => (if (f_L_low p2 16) < 2 then (ob2 (m_buy Z v (f_L_low p3 8) (1 + (f_L_low (p3 >>> ((7 : Int32) &&& 31)) 6))) (fun (b303 : Int32) (w304 : OV) => (if b303 = (-2) then (ob1 (m_count Z w304 3) (fun (b317 : Int32) => (if (b2 - (10 * b317)) < (5 * (1 + (f_L_low (p3 >>> ((7 : Int32) &&& 31)) 6))) then (some (1, w304)) else (some (0, w304))))) else (if b303 = (-3) then (if 60 < (b1 + (1 + (f_L_low (p3 >>> ((7 : Int32) &&& 31)) 6))) then (some (1, w304)) else (ob1 (m_stand Z w304 (f_L_low p3 8) 0) (fun (b315 : Int32) => (if b315 < (b3 + (1 + (f_L_low (p3 >>> ((7 : Int32) &&& 31)) 6))) then (some (1, w304)) else (some (0, w304)))))) else (if b303 = b1 then (ob1 (m_count Z w304 1) (fun (b308 : Int32) => (if b308 = (b1 + (1 + (f_L_low (p3 >>> ((7 : Int32) &&& 31)) 6))) then (ob1 (m_count Z w304 8) (fun (b310 : Int32) => (if b310 = (b2 - (5 * (1 + (f_L_low (p3 >>> ((7 : Int32) &&& 31)) 6)))) then (ob1 (m_stand Z w304 (f_L_low p3 8) 1) (fun (b312 : Int32) => (if b312 = (b3 + (1 + (f_L_low (p3 >>> ((7 : Int32) &&& 31)) 6))) then (some (1, w304)) else (some (0, w304))))) else (some (0, w304))))) else (some (0, w304))))) else (some (0, w304))))))) else (if (f_L_low p2 16) < 5 then (ob1 (m_stand Z v (f_L_low p3 8) 3) (fun (b278 : Int32) => (ob1 (m_person Z v (f_L_low (p3 >>> ((3 : Int32) &&& 31)) 12) 0) (fun (b279 : Int32) => (ob1 (if b278 = (-9) then (some 0) else (if 9 < b279 then (ob1 (m_person Z v (f_L_low (p3 >>> ((3 : Int32) &&& 31)) 12) 1) (fun (b301 : Int32) => (if b301 = (-9) then (some 1) else (some 0)))) else (some 0))) (fun (x285 : Int32) => (ob2 (m_borrow Z v (f_L_low (p3 >>> ((3 : Int32) &&& 31)) 12) (f_L_low p3 8)) (fun (b287 : Int32) (w288 : OV) => (if x285 = 0 then (if b287 = (-2) then (ob1 (m_count Z w288 8) (fun (b291 : Int32) => (if b291 = b2 then (some (1, w288)) else (some (0, w288))))) else (some (0, w288))) else (if b287 = b278 then (ob1 (m_person Z w288 (f_L_low (p3 >>> ((3 : Int32) &&& 31)) 12) 1) (fun (b294 : Int32) => (if b294 = b278 then (ob1 (m_person Z w288 (f_L_low (p3 >>> ((3 : Int32) &&& 31)) 12) 0) (fun (b296 : Int32) => (if b296 = (b279 - 10) then (ob1 (m_count Z w288 8) (fun (b298 : Int32) => (if b298 = (b2 + 10) then (some (1, w288)) else (some (0, w288))))) else (some (0, w288))))) else (some (0, w288))))) else (some (0, w288)))))))))))) else (if (f_L_low p2 16) < 8 then (ob1 (m_person Z v (f_L_low (p3 >>> ((3 : Int32) &&& 31)) 12) 1) (fun (b251 : Int32) => (ob1 (m_feeIn Z v (f_L_low (p3 >>> ((3 : Int32) &&& 31)) 12) 0 0) (fun (b252 : Int32) => (ob2 (m_bringBack Z v (f_L_low (p3 >>> ((3 : Int32) &&& 31)) 12) (f_L_low p3 8)) (fun (b253 : Int32) (w254 : OV) => (if b251 = (-9) then (if b253 = (-2) then (if b252 = (-2) then (some (1, w254)) else (some (0, w254))) else (some (0, w254))) else (if b253 = (-3) then (ob1 (m_stand Z w254 (f_L_low p3 8) 0) (fun (b274 : Int32) => (if b3 < b274 then (some (0, w254)) else (some (1, w254))))) else (if b253 = b252 then (ob1 (m_person Z w254 (f_L_low (p3 >>> ((3 : Int32) &&& 31)) 12) 4) (fun (b258 : Int32) => (if b258 = (f_L_low p3 8) then (ob1 (m_umbrella w254 b251 0) (fun (b260 : Int32) => (if b260 = 0 then (ob1 (m_umbrella w254 b251 1) (fun (b262 : Int32) => (if b262 = (f_L_low p3 8) then (ob1 (m_count Z w254 8) (fun (b264 : Int32) => (if b264 = ((b2 - 10) + b252) then (if 0 < (f_L_low (p3 >>> ((9 : Int32) &&& 31)) 3) then (some (1, w254)) else (ob2 (m_undo w254) (fun (b267 : Int32) (w268 : OV) => (if b267 < 0 then (some (0, w268)) else (ob1 (m_person Z w268 (f_L_low (p3 >>> ((3 : Int32) &&& 31)) 12) 1) (fun (b270 : Int32) => (if b270 = b251 then (ob1 (m_count Z w268 8) (fun (b272 : Int32) => (if b272 = b2 then (some (1, w268)) else (some (0, w268))))) else (some (0, w268))))))))) else (some (0, w254))))) else (some (0, w254))))) else (some (0, w254))))) else (some (0, w254))))) else (some (0, w254))))))))))) else (if (f_L_low p2 16) < 11 then (ob2 (b01 (f_L_hour Z v (f_L_low p3 10) (f_L_low (p3 >>> ((4 : Int32) &&& 31)) 4))) (fun (b249 : Int32) (w250 : OV) => (some (b249, w250)))) else (if (f_L_low p2 16) = 11 then (pl1 (if (f_L_low (p3 >>> ((3 : Int32) &&& 31)) 4) = 0 then (1 + (f_L_low (p3 >>> ((5 : Int32) &&& 31)) 20)) else (3 + (f_L_low (p3 >>> ((5 : Int32) &&& 31)) 9))) (fun (x229 : Int32) => (ob1 (m_stand Z v (f_L_low p3 8) 0) (fun (b231 : Int32) => (ob1 (m_count Z v 14) (fun (b232 : Int32) => (ob2 (m_set v (f_L_low p3 8) x229) (fun (b233 : Int32) (w234 : OV) => (pl1 (if x229 < b3 then (-2) else b231) (fun (x236 : Int32) => (if b233 = x236 then (ob1 (m_stand Z w234 (f_L_low p3 8) 0) (fun (b239 : Int32) => (pl1 (if x229 < b3 then b231 else x229) (fun (x241 : Int32) => (if b239 = x241 then (ob2 (m_set w234 8 (f_L_low (p3 >>> ((9 : Int32) &&& 31)) 6)) (fun (b244 : Int32) (w245 : OV) => (if b244 = b232 then (ob1 (m_count Z w245 14) (fun (b247 : Int32) => (if b247 = (f_L_low (p3 >>> ((9 : Int32) &&& 31)) 6) then (some (1, w245)) else (some (0, w245))))) else (some (0, w245))))) else (some (0, w234))))))) else (some (0, w234))))))))))))) else (ob1 (m_count Z v 4) (fun (b9 : Int32) => (if (f_L_low p2 16) = 12 then (ob1 (m_stand Z v (f_L_low p3 8) 4) (fun (b213 : Int32) => (ob2 (m_load Z v (f_L_low (p3 >>> ((3 : Int32) &&& 31)) 2) (f_L_low p3 8) (1 + (f_L_low (p3 >>> ((5 : Int32) &&& 31)) 6))) (fun (b214 : Int32) (w215 : OV) => (if b214 = (-2) then (if b3 < (1 + (f_L_low (p3 >>> ((5 : Int32) &&& 31)) 6)) then (some (1, w215)) else (some (0, w215))) else (if b214 = (-3) then (some (1, w215)) else (if (1 + (f_L_low (p3 >>> ((5 : Int32) &&& 31)) 6)) < b214 then (some (0, w215)) else (ob1 (m_count Z w215 4) (fun (b219 : Int32) => (if b219 = (b9 + (1 + (f_L_low (p3 >>> ((5 : Int32) &&& 31)) 6))) then (ob1 (m_umbrella w215 b213 0) (fun (b221 : Int32) => (if b221 = 2 then (ob1 (m_umbrella w215 b213 1) (fun (b223 : Int32) => (if b223 = (f_L_low (p3 >>> ((3 : Int32) &&& 31)) 2) then (ob1 (m_stand Z w215 (f_L_low p3 8) 1) (fun (b225 : Int32) => (if b225 = (b3 - (1 + (f_L_low (p3 >>> ((5 : Int32) &&& 31)) 6))) then (some (1, w215)) else (some (0, w215))))) else (some (0, w215))))) else (some (0, w215))))) else (some (0, w215)))))))))))) else (if (f_L_low p2 16) = 13 then (ob2 (m_unload Z v (f_L_low (p3 >>> ((3 : Int32) &&& 31)) 2) (f_L_low p3 8) (1 + (f_L_low (p3 >>> ((5 : Int32) &&& 31)) 6))) (fun (b198 : Int32) (w199 : OV) => (if b198 = (-2) then (some (1, w199)) else (if b198 = (-3) then (ob1 (m_stand Z w199 (f_L_low p3 8) 0) (fun (b211 : Int32) => (if b211 < (b3 + (1 + (f_L_low (p3 >>> ((5 : Int32) &&& 31)) 6))) then (some (1, w199)) else (some (0, w199))))) else (ob1 (m_count Z w199 4) (fun (b202 : Int32) => (if b202 = (b9 - (1 + (f_L_low (p3 >>> ((5 : Int32) &&& 31)) 6))) then (ob1 (m_stand Z w199 (f_L_low p3 8) 1) (fun (b204 : Int32) => (if b204 = (b3 + (1 + (f_L_low (p3 >>> ((5 : Int32) &&& 31)) 6))) then (ob1 (m_inVan Z w199 (f_L_low (p3 >>> ((3 : Int32) &&& 31)) 2) b198) (fun (b206 : Int32) => (if b206 = (-9) then (if b198 = 0 then (some (1, w199)) else (ob1 (m_inVan Z w199 (f_L_low (p3 >>> ((3 : Int32) &&& 31)) 2) (b198 - 1)) (fun (b209 : Int32) => (if b209 < 0 then (some (0, w199)) else (some (1, w199)))))) else (some (0, w199))))) else (some (0, w199))))) else (some (0, w199))))))))) else (if (f_L_low p2 16) = 14 then (ob1 (m_count Z v 5) (fun (b142 : Int32) => (ob2 (m_toWorkshop Z v (f_L_low (p3 >>> ((3 : Int32) &&& 31)) 2)) (fun (b143 : Int32) (w144 : OV) => (ob1 (m_count Z w144 6) (fun (b145 : Int32) => (pl1 (if 0 < b143 then b143 else 0) (fun (x147 : Int32) => (ob1 (m_count Z w144 5) (fun (b149 : Int32) => (ob2 (if b149 = (b142 + x147) then (ob2 (m_mend Z w144 (f_L_low p3 8)) (fun (b196 : Int32) (w197 : OV) => (some (b196, w197)))) else (some ((-1), w144))) (fun (x153 : Int32) (w154 : OV) => (if b143 = (-2) then (if x153 = (-2) then (if (b142 + x147) < 2 then (some (1, w154)) else (ob1 (m_count Z w154 3) (fun (b173 : Int32) => (if (b2 - (10 * b173)) < 3 then (some (1, w154)) else (some (0, w154)))))) else (if x153 = (-3) then (ob1 (m_stand Z w154 (f_L_low p3 8) 0) (fun (b170 : Int32) => (if b3 < b170 then (some (0, w154)) else (some (1, w154))))) else (if x153 < 0 then (some (0, w154)) else (ob1 (m_umbrella w154 x153 3) (fun (b160 : Int32) => (if b160 = 0 then (ob1 (m_umbrella w154 x153 1) (fun (b162 : Int32) => (if b162 = (f_L_low p3 8) then (ob1 (m_count Z w154 6) (fun (b164 : Int32) => (if b164 = (b145 + 1) then (ob1 (m_count Z w154 5) (fun (b166 : Int32) => (if b166 = ((b142 + x147) - 2) then (ob1 (m_count Z w154 8) (fun (b168 : Int32) => (if b168 = (b2 - 3) then (some (1, w154)) else (some (0, w154))))) else (some (0, w154))))) else (some (0, w154))))) else (some (0, w154))))) else (some (0, w154)))))))) else (if 0 < b143 then (ob1 (m_count Z w154 4) (fun (b176 : Int32) => (if b176 = (b9 - b143) then (if x153 = (-2) then (if (b142 + x147) < 2 then (some (1, w154)) else (ob1 (m_count Z w154 3) (fun (b194 : Int32) => (if (b2 - (10 * b194)) < 3 then (some (1, w154)) else (some (0, w154)))))) else (if x153 = (-3) then (ob1 (m_stand Z w154 (f_L_low p3 8) 0) (fun (b191 : Int32) => (if b3 < b191 then (some (0, w154)) else (some (1, w154))))) else (if x153 < 0 then (some (0, w154)) else (ob1 (m_umbrella w154 x153 3) (fun (b181 : Int32) => (if b181 = 0 then (ob1 (m_umbrella w154 x153 1) (fun (b183 : Int32) => (if b183 = (f_L_low p3 8) then (ob1 (m_count Z w154 6) (fun (b185 : Int32) => (if b185 = (b145 + 1) then (ob1 (m_count Z w154 5) (fun (b187 : Int32) => (if b187 = ((b142 + x147) - 2) then (ob1 (m_count Z w154 8) (fun (b189 : Int32) => (if b189 = (b2 - 3) then (some (1, w154)) else (some (0, w154))))) else (some (0, w154))))) else (some (0, w154))))) else (some (0, w154))))) else (some (0, w154)))))))) else (some (0, w154))))) else (some (0, w154)))))))))))))))) else (ob2 (m_level Z v) (fun (b13 : Int32) (w14 : OV) => (ob2 (f_L_acts_L1229 Z w14 Z 0 99 0) (fun (e69 : Int32) (e70 : Int32) => (ob2 (if b13 < 0 then (some (0, w14)) else (if e70 = 99 then (ob2 (m_level Z w14) (fun (b109 : Int32) (w110 : OV) => (if b109 = 0 then (some (1, w110)) else (some (0, w110))))) else (ob1 (m_stand Z w14 e69 1) (fun (b112 : Int32) => (if b112 < (e70 + 2) then (ob2 (m_level Z w14) (fun (b114 : Int32) (w115 : OV) => (if b114 = 0 then (some (1, w115)) else (some (0, w115))))) else (ob1 (m_stand Z w14 e69 3) (fun (b117 : Int32) => (if b117 = (-9) then (ob2 (m_level Z w14) (fun (b119 : Int32) (w120 : OV) => (if b119 = 0 then (some (1, w120)) else (some (0, w120))))) else (some (0, w14)))))))))) (fun (x87 : Int32) (w88 : OV) => (ob2 (m_take w88 (f_L_low p3 2)) (fun (b90 : Int32) (w91 : OV) => (if x87 = 0 then (some (0, w91)) else (ob1 (m_count Z w91 0) (fun (b93 : Int32) => (if b90 = b93 then (ob2 (b01 (f_L_hour Z w91 (f_L_low (p3 >>> ((3 : Int32) &&& 31)) 10) 3)) (fun (b95 : Int32) (w96 : OV) => (if b95 = 0 then (some (0, w96)) else (ob2 (m_restore w96 (f_L_low p3 2)) (fun (b98 : Int32) (w99 : OV) => (if b98 = b90 then (ob1 (m_count Z w99 0) (fun (b101 : Int32) => (if b101 = b90 then (ob1 (m_count Z w99 8) (fun (b103 : Int32) => (if b103 = b2 then (ob2 (m_restore w99 2) (fun (b105 : Int32) (w106 : OV) => (if b105 = (-1) then (some (1, w106)) else (some (0, w106))))) else (some (0, w99))))) else (some (0, w99))))) else (some (0, w99)))))))) else (some (0, w91))))))))))))))))))))))))))))))
abbrev rm_L_acts : Room := { frames := 8, cells := 2, slots := 72, locals := 187 }
set_option maxHeartbeats 8000000 in
set_option maxRecDepth 100000 in
theorem c_L_acts (l : Launch) (D : va_G) (cI cC cR : ClassId) (h0 h1 t0 t1 : Nat) (a b d ah : Nat → Nat) (v : OV) (p2 : Int32) (p3 : Int32) (Z : Nat) (r : Int32) (v' : OV) (hF : f_L_acts Z v p2 p3 = some (r, v')) : MEn l yL_acts cL_acts 18 (some .boolean) rm_L_acts D (TY cI cC cR) [.ref h0, .int p2, .int p3] (bO cI cC cR h0 h1 t0 t1 a b d ah v) (bO cI cC cR h0 h1 t0 t1 a b d ah v') (some (.int r)) 2 72 := by
  refine me_en pn_L (Nat.le_of_ble_eq_true rfl) rfl (fun Γ X E hret => ?_)
  refine kb_one ?_
  unfold f_L_acts at hF
  refine kw_iload_n X dL_acts_0 rfl 1 rfl ?_
  refine kw_bipush X dL_acts_1 cb_16 ?_
  refine kw_sp X (r := .int (f_L_low p2 16)) (As := [.int p2, .int 16]) (st := []) (c_L_low l D cI cC cR p2 16 (by decide)) vl_L_41 yv_L_low ⟨Nat.le_of_ble_eq_true rfl, Nat.le_of_ble_eq_true rfl⟩ ⟨rfl, rfl⟩ ⟨Nat.le_of_ble_eq_true rfl, Nat.le_of_ble_eq_true rfl⟩ [] rfl rfl rfl rfl (Nat.le_of_ble_eq_true rfl) dL_acts_3 ?_
  refine kw_istore_n (lo' := [(0, .ref h0), (1, .int p2), (2, .int p3), (3, .int (f_L_low p2 16))]) X dL_acts_6 rfl (by decide) [1, 2, 3, 0] rfl ?_
  refine kw_iload_n X dL_acts_7 rfl 2 rfl ?_
  refine kw_bipush X dL_acts_8 cb_8 ?_
  refine kw_sp X (r := .int (f_L_low p3 8)) (As := [.int p3, .int 8]) (st := []) (c_L_low l D cI cC cR p3 8 (by decide)) vl_L_41 yv_L_low ⟨Nat.le_of_ble_eq_true rfl, Nat.le_of_ble_eq_true rfl⟩ ⟨rfl, rfl⟩ ⟨Nat.le_of_ble_eq_true rfl, Nat.le_of_ble_eq_true rfl⟩ [] rfl rfl rfl rfl (Nat.le_of_ble_eq_true rfl) dL_acts_10 ?_
  refine kw_istore (lo' := [(0, .ref h0), (1, .int p2), (2, .int p3), (3, .int (f_L_low p2 16)), (4, .int (f_L_low p3 8))]) X dL_acts_13 (by decide) [1, 2, 3, 4, 0] rfl ?_
  refine kw_iload_n X dL_acts_15 rfl 2 rfl ?_
  refine kw_iconst X dL_acts_16 ci_3 ?_
  refine kw_ishr X dL_acts_17 ?_
  refine kw_bipush X dL_acts_18 cb_12 ?_
  refine kw_sp X (r := .int (f_L_low (p3 >>> ((3 : Int32) &&& 31)) 12)) (As := [.int (p3 >>> ((3 : Int32) &&& 31)), .int 12]) (st := []) (c_L_low l D cI cC cR (p3 >>> ((3 : Int32) &&& 31)) 12 (by decide)) vl_L_41 yv_L_low ⟨Nat.le_of_ble_eq_true rfl, Nat.le_of_ble_eq_true rfl⟩ ⟨rfl, rfl⟩ ⟨Nat.le_of_ble_eq_true rfl, Nat.le_of_ble_eq_true rfl⟩ [] rfl rfl rfl rfl (Nat.le_of_ble_eq_true rfl) dL_acts_20 ?_
  refine kw_istore (lo' := [(0, .ref h0), (1, .int p2), (2, .int p3), (3, .int (f_L_low p2 16)), (4, .int (f_L_low p3 8)), (5, .int (f_L_low (p3 >>> ((3 : Int32) &&& 31)) 12))]) X dL_acts_23 (by decide) [1, 2, 3, 4, 5, 0] rfl ?_
  refine kw_aload_n X dL_acts_25 rfl 0 rfl ?_
  refine kw_iconst X dL_acts_26 ci_1 ?_
  obtain ⟨b1, hx1, hF⟩ := ob1_ex hF
  refine kb_ap X (r := .int b1) (As := [.int 1]) (st := []) (cm_count l D cI cC cR h0 h1 t0 t1 a b d ah v 1 Z b1 hx1) vl_L_9 yv_X6_count ⟨Nat.le_of_ble_eq_true rfl, Nat.le_of_ble_eq_true rfl⟩ ⟨rfl, rfl⟩ ⟨Nat.le_of_ble_eq_true rfl, Nat.le_of_ble_eq_true rfl⟩ 0 0 rfl bO_0 rfl rfl rfl (Nat.le_of_ble_eq_true rfl) dL_acts_27 ?_
  refine kw_istore (lo' := [(0, .ref h0), (1, .int p2), (2, .int p3), (3, .int (f_L_low p2 16)), (4, .int (f_L_low p3 8)), (5, .int (f_L_low (p3 >>> ((3 : Int32) &&& 31)) 12)), (6, .int b1)]) X dL_acts_30 (by decide) [1, 2, 3, 4, 5, 6, 0] rfl ?_
  refine kw_aload_n X dL_acts_32 rfl 0 rfl ?_
  refine kw_bipush X dL_acts_33 cb_8 ?_
  obtain ⟨b2, hx2, hF⟩ := ob1_ex hF
  refine kb_ap X (r := .int b2) (As := [.int 8]) (st := []) (cm_count l D cI cC cR h0 h1 t0 t1 a b d ah v 8 Z b2 hx2) vl_L_9 yv_X6_count ⟨Nat.le_of_ble_eq_true rfl, Nat.le_of_ble_eq_true rfl⟩ ⟨rfl, rfl⟩ ⟨Nat.le_of_ble_eq_true rfl, Nat.le_of_ble_eq_true rfl⟩ 0 0 rfl bO_0 rfl rfl rfl (Nat.le_of_ble_eq_true rfl) dL_acts_35 ?_
  refine kw_istore (lo' := [(0, .ref h0), (1, .int p2), (2, .int p3), (3, .int (f_L_low p2 16)), (4, .int (f_L_low p3 8)), (5, .int (f_L_low (p3 >>> ((3 : Int32) &&& 31)) 12)), (6, .int b1), (7, .int b2)]) X dL_acts_38 (by decide) [1, 2, 3, 4, 5, 6, 7, 0] rfl ?_
  refine kw_aload_n X dL_acts_40 rfl 0 rfl ?_
  refine kw_iload X dL_acts_41 4 rfl ?_
  refine kw_iconst X dL_acts_43 ci_1 ?_
  obtain ⟨b3, hx3, hF⟩ := ob1_ex hF
  refine kb_ap X (r := .int b3) (As := [.int (f_L_low p3 8), .int 1]) (st := []) (cm_stand l D cI cC cR h0 h1 t0 t1 a b d ah v (f_L_low p3 8) 1 Z b3 hx3) vl_L_24 yv_X6_stand ⟨Nat.le_of_ble_eq_true rfl, Nat.le_of_ble_eq_true rfl⟩ ⟨rfl, rfl⟩ ⟨Nat.le_of_ble_eq_true rfl, Nat.le_of_ble_eq_true rfl⟩ 0 0 rfl bO_0 rfl rfl rfl (Nat.le_of_ble_eq_true rfl) dL_acts_44 ?_
  refine kw_istore (lo' := [(0, .ref h0), (1, .int p2), (2, .int p3), (3, .int (f_L_low p2 16)), (4, .int (f_L_low p3 8)), (5, .int (f_L_low (p3 >>> ((3 : Int32) &&& 31)) 12)), (6, .int b1), (7, .int b2), (8, .int b3)]) X dL_acts_47 (by decide) [1, 2, 3, 4, 5, 6, 7, 8, 0] rfl ?_
  refine kw_iload_n X dL_acts_49 rfl 3 rfl ?_
  refine kw_iconst X dL_acts_50 ci_2 ?_
  refine kw_icmp_ge X 207 dL_acts_51 (by decide) (fun q4 => ?_) (fun q4 => ?_)
  · replace hF := (if_neg q4).symm.trans hF
    refine kw_iload_n X dL_acts_207 rfl 3 rfl ?_
    refine kw_iconst X dL_acts_208 ci_5 ?_
    refine kw_icmp_ge X 358 dL_acts_209 (by decide) (fun q5 => ?_) (fun q5 => ?_)
    · replace hF := (if_neg q5).symm.trans hF
      refine kw_iload_n X dL_acts_358 rfl 3 rfl ?_
      refine kw_bipush X dL_acts_359 cb_8 ?_
      refine kw_icmp_ge X 552 dL_acts_361 (by decide) (fun q6 => ?_) (fun q6 => ?_)
      · replace hF := (if_neg q6).symm.trans hF
        refine kw_iload_n X dL_acts_552 rfl 3 rfl ?_
        refine kw_bipush X dL_acts_553 cb_11 ?_
        refine kw_icmp_ge X 576 dL_acts_555 (by decide) (fun q7 => ?_) (fun q7 => ?_)
        · replace hF := (if_neg q7).symm.trans hF
          refine kw_iload_n X dL_acts_576 rfl 3 rfl ?_
          refine kw_bipush X dL_acts_577 cb_11 ?_
          refine kw_icmp_ne X 727 dL_acts_579 (by decide) (fun q8 => ?_) (fun q8 => ?_)
          · replace hF := (if_neg q8).symm.trans hF
            refine kw_iload_n X dL_acts_727 rfl 2 rfl ?_
            refine kw_iconst X dL_acts_728 ci_3 ?_
            refine kw_ishr X dL_acts_729 ?_
            refine kw_iconst X dL_acts_730 ci_2 ?_
            refine kw_sp X (r := .int (f_L_low (p3 >>> ((3 : Int32) &&& 31)) 2)) (As := [.int (p3 >>> ((3 : Int32) &&& 31)), .int 2]) (st := []) (c_L_low l D cI cC cR (p3 >>> ((3 : Int32) &&& 31)) 2 (by decide)) vl_L_41 yv_L_low ⟨Nat.le_of_ble_eq_true rfl, Nat.le_of_ble_eq_true rfl⟩ ⟨rfl, rfl⟩ ⟨Nat.le_of_ble_eq_true rfl, Nat.le_of_ble_eq_true rfl⟩ [] rfl rfl rfl rfl (Nat.le_of_ble_eq_true rfl) dL_acts_731 ?_
            refine kw_istore (lo' := [(0, .ref h0), (1, .int p2), (2, .int p3), (3, .int (f_L_low p2 16)), (4, .int (f_L_low p3 8)), (5, .int (f_L_low (p3 >>> ((3 : Int32) &&& 31)) 12)), (6, .int b1), (7, .int b2), (8, .int b3), (9, .int (f_L_low (p3 >>> ((3 : Int32) &&& 31)) 2))]) X dL_acts_734 (by decide) [1, 2, 3, 4, 5, 6, 7, 8, 9, 0] rfl ?_
            refine kw_iconst X dL_acts_736 ci_1 ?_
            refine kw_iload_n X dL_acts_737 rfl 2 rfl ?_
            refine kw_iconst X dL_acts_738 ci_5 ?_
            refine kw_ishr X dL_acts_739 ?_
            refine kw_bipush X dL_acts_740 cb_6 ?_
            refine kw_sp X (r := .int (f_L_low (p3 >>> ((5 : Int32) &&& 31)) 6)) (As := [.int (p3 >>> ((5 : Int32) &&& 31)), .int 6]) (st := [.int 1]) (c_L_low l D cI cC cR (p3 >>> ((5 : Int32) &&& 31)) 6 (by decide)) vl_L_41 yv_L_low ⟨Nat.le_of_ble_eq_true rfl, Nat.le_of_ble_eq_true rfl⟩ ⟨rfl, rfl⟩ ⟨Nat.le_of_ble_eq_true rfl, Nat.le_of_ble_eq_true rfl⟩ [] rfl rfl rfl rfl (Nat.le_of_ble_eq_true rfl) dL_acts_742 ?_
            refine kw_iadd X dL_acts_745 ?_
            refine kw_istore (lo' := [(0, .ref h0), (1, .int p2), (2, .int p3), (3, .int (f_L_low p2 16)), (4, .int (f_L_low p3 8)), (5, .int (f_L_low (p3 >>> ((3 : Int32) &&& 31)) 12)), (6, .int b1), (7, .int b2), (8, .int b3), (9, .int (f_L_low (p3 >>> ((3 : Int32) &&& 31)) 2)), (10, .int (1 + (f_L_low (p3 >>> ((5 : Int32) &&& 31)) 6)))]) X dL_acts_746 (by decide) [1, 2, 3, 4, 5, 6, 7, 8, 9, 10, 0] rfl ?_
            refine kw_aload_n X dL_acts_748 rfl 0 rfl ?_
            refine kw_iconst X dL_acts_749 ci_4 ?_
            obtain ⟨b9, hx9, hF⟩ := ob1_ex hF
            refine kb_ap X (r := .int b9) (As := [.int 4]) (st := []) (cm_count l D cI cC cR h0 h1 t0 t1 a b d ah v 4 Z b9 hx9) vl_L_9 yv_X6_count ⟨Nat.le_of_ble_eq_true rfl, Nat.le_of_ble_eq_true rfl⟩ ⟨rfl, rfl⟩ ⟨Nat.le_of_ble_eq_true rfl, Nat.le_of_ble_eq_true rfl⟩ 0 0 rfl bO_0 rfl rfl rfl (Nat.le_of_ble_eq_true rfl) dL_acts_750 ?_
            refine kw_istore (lo' := [(0, .ref h0), (1, .int p2), (2, .int p3), (3, .int (f_L_low p2 16)), (4, .int (f_L_low p3 8)), (5, .int (f_L_low (p3 >>> ((3 : Int32) &&& 31)) 12)), (6, .int b1), (7, .int b2), (8, .int b3), (9, .int (f_L_low (p3 >>> ((3 : Int32) &&& 31)) 2)), (10, .int (1 + (f_L_low (p3 >>> ((5 : Int32) &&& 31)) 6))), (11, .int b9)]) X dL_acts_753 (by decide) [1, 2, 3, 4, 5, 6, 7, 8, 9, 10, 11, 0] rfl ?_
            refine kw_iload_n X dL_acts_755 rfl 3 rfl ?_
            refine kw_bipush X dL_acts_756 cb_12 ?_
            refine kw_icmp_ne X 875 dL_acts_758 (by decide) (fun q10 => ?_) (fun q10 => ?_)
            · replace hF := (if_neg q10).symm.trans hF
              refine kw_iload_n X dL_acts_875 rfl 3 rfl ?_
              refine kw_bipush X dL_acts_876 cb_13 ?_
              refine kw_icmp_ne X 990 dL_acts_878 (by decide) (fun q11 => ?_) (fun q11 => ?_)
              · replace hF := (if_neg q11).symm.trans hF
                refine kw_iload_n X dL_acts_990 rfl 3 rfl ?_
                refine kw_bipush X dL_acts_991 cb_14 ?_
                refine kw_icmp_ne X 1206 dL_acts_993 (by decide) (fun q12 => ?_) (fun q12 => ?_)
                · replace hF := (if_neg q12).symm.trans hF
                  refine kw_iload_n X dL_acts_1206 rfl 2 rfl ?_
                  refine kw_iconst X dL_acts_1207 ci_2 ?_
                  refine kw_sp X (r := .int (f_L_low p3 2)) (As := [.int p3, .int 2]) (st := []) (c_L_low l D cI cC cR p3 2 (by decide)) vl_L_41 yv_L_low ⟨Nat.le_of_ble_eq_true rfl, Nat.le_of_ble_eq_true rfl⟩ ⟨rfl, rfl⟩ ⟨Nat.le_of_ble_eq_true rfl, Nat.le_of_ble_eq_true rfl⟩ [] rfl rfl rfl rfl (Nat.le_of_ble_eq_true rfl) dL_acts_1208 ?_
                  refine kw_istore (lo' := [(0, .ref h0), (1, .int p2), (2, .int p3), (3, .int (f_L_low p2 16)), (4, .int (f_L_low p3 8)), (5, .int (f_L_low (p3 >>> ((3 : Int32) &&& 31)) 12)), (6, .int b1), (7, .int b2), (8, .int b3), (9, .int (f_L_low (p3 >>> ((3 : Int32) &&& 31)) 2)), (10, .int (1 + (f_L_low (p3 >>> ((5 : Int32) &&& 31)) 6))), (11, .int b9), (12, .int (f_L_low p3 2))]) X dL_acts_1211 (by decide) [1, 2, 3, 4, 5, 6, 7, 8, 9, 10, 11, 12, 0] rfl ?_
                  refine kw_aload_n X dL_acts_1213 rfl 0 rfl ?_
                  obtain ⟨b13, w14, hx14, hF⟩ := ob2_ex hF
                  refine kb_aei X (r := .int b13) (As := []) (st := []) (bs' := [bO cI cC cR h0 h1 t0 t1 a b d ah w14]) E (cm_level l D cI cC cR h0 h1 t0 t1 a b d ah v Z b13 w14 hx14) vl_L_77 yv_X6_level ⟨Nat.le_of_ble_eq_true rfl, Nat.le_of_ble_eq_true rfl⟩ ⟨rfl, rfl⟩ ⟨Nat.le_of_ble_eq_true rfl, Nat.le_of_ble_eq_true rfl⟩ 0 0 rfl bO_0 rfl rfl rfl (Nat.le_of_ble_eq_true rfl) dL_acts_1214 ((bO cI cC cR h0 h1 t0 t1 a b d ah v).map (·.1)) bO_same rfl rfl ?_
                  refine kw_istore (lo' := [(0, .ref h0), (1, .int p2), (2, .int p3), (3, .int (f_L_low p2 16)), (4, .int (f_L_low p3 8)), (5, .int (f_L_low (p3 >>> ((3 : Int32) &&& 31)) 12)), (6, .int b1), (7, .int b2), (8, .int b3), (9, .int (f_L_low (p3 >>> ((3 : Int32) &&& 31)) 2)), (10, .int (1 + (f_L_low (p3 >>> ((5 : Int32) &&& 31)) 6))), (11, .int b9), (12, .int (f_L_low p3 2)), (13, .int b13)]) X dL_acts_1217 (by decide) [1, 2, 3, 4, 5, 6, 7, 8, 9, 10, 11, 12, 13, 0] rfl ?_
                  refine kw_iconst X dL_acts_1219 ci_0 ?_
                  refine kw_istore (lo' := [(0, .ref h0), (1, .int p2), (2, .int p3), (3, .int (f_L_low p2 16)), (4, .int (f_L_low p3 8)), (5, .int (f_L_low (p3 >>> ((3 : Int32) &&& 31)) 12)), (6, .int b1), (7, .int b2), (8, .int b3), (9, .int (f_L_low (p3 >>> ((3 : Int32) &&& 31)) 2)), (10, .int (1 + (f_L_low (p3 >>> ((5 : Int32) &&& 31)) 6))), (11, .int b9), (12, .int (f_L_low p3 2)), (13, .int b13), (14, .int 0)]) X dL_acts_1220 (by decide) [1, 2, 3, 4, 5, 6, 7, 8, 9, 10, 11, 12, 13, 14, 0] rfl ?_
                  refine kw_bipush X dL_acts_1222 cb_99 ?_
                  refine kw_istore (lo' := [(0, .ref h0), (1, .int p2), (2, .int p3), (3, .int (f_L_low p2 16)), (4, .int (f_L_low p3 8)), (5, .int (f_L_low (p3 >>> ((3 : Int32) &&& 31)) 12)), (6, .int b1), (7, .int b2), (8, .int b3), (9, .int (f_L_low (p3 >>> ((3 : Int32) &&& 31)) 2)), (10, .int (1 + (f_L_low (p3 >>> ((5 : Int32) &&& 31)) 6))), (11, .int b9), (12, .int (f_L_low p3 2)), (13, .int b13), (14, .int 0), (15, .int 99)]) X dL_acts_1224 (by decide) [1, 2, 3, 4, 5, 6, 7, 8, 9, 10, 11, 12, 13, 14, 15, 0] rfl ?_
                  refine kw_iconst X dL_acts_1226 ci_0 ?_
                  refine kw_istore (lo' := [(0, .ref h0), (1, .int p2), (2, .int p3), (3, .int (f_L_low p2 16)), (4, .int (f_L_low p3 8)), (5, .int (f_L_low (p3 >>> ((3 : Int32) &&& 31)) 12)), (6, .int b1), (7, .int b2), (8, .int b3), (9, .int (f_L_low (p3 >>> ((3 : Int32) &&& 31)) 2)), (10, .int (1 + (f_L_low (p3 >>> ((5 : Int32) &&& 31)) 6))), (11, .int b9), (12, .int (f_L_low p3 2)), (13, .int b13), (14, .int 0), (15, .int 99), (16, .int 0)]) X dL_acts_1227 (by decide) [1, 2, 3, 4, 5, 6, 7, 8, 9, 10, 11, 12, 13, 14, 15, 16, 0] rfl ?_
                  refine kw_loc (lo' := [(0, .ref h0), (2, .int p3), (7, .int b2), (12, .int (f_L_low p3 2)), (13, .int b13), (14, .int 0), (15, .int 99), (16, .int 0)]) [0, 2, 7, 12, 13, 14, 15, 16] rfl ?_
                  obtain ⟨e69, e70, hx, hF⟩ := ob2_ex hF
                  have J : KW Γ 0 0 (wj [bO cI cC cR h0 h1 t0 t1 a b d ah w14]) [(0, .ref h0), (2, .int p3), (7, .int b2), (12, .int (f_L_low p3 2)), (13, .int b13), (14, .int e69), (15, .int e70)] 1311 [] := by
                    refine kw_iload X dL_acts_1311 4 rfl ?_
                    obtain ⟨x87, w88, hx89, hF⟩ := ob2_ex hF
                    have J : KW Γ 0 0 (wj [bO cI cC cR h0 h1 t0 t1 a b d ah w88]) [(0, .ref h0), (2, .int p3), (7, .int b2), (12, .int (f_L_low p3 2))] 1361 [.int x87] := by
                      refine kw_istore (lo' := [(0, .ref h0), (2, .int p3), (7, .int b2), (12, .int (f_L_low p3 2)), (16, .int x87)]) X dL_acts_1361 (by decide) [1, 2, 3, 4, 0] rfl ?_
                      refine kw_aload_n X dL_acts_1363 rfl 0 rfl ?_
                      refine kw_iload X dL_acts_1364 3 rfl ?_
                      obtain ⟨b90, w91, hx91, hF⟩ := ob2_ex hF
                      refine kb_aei X (r := .int b90) (As := [.int (f_L_low p3 2)]) (st := []) (bs' := [bO cI cC cR h0 h1 t0 t1 a b d ah w91]) E (cm_take l D cI cC cR h0 h1 t0 t1 a b d ah w88 (f_L_low p3 2) b90 w91 hx91) vl_L_80 yv_X6_take ⟨Nat.le_of_ble_eq_true rfl, Nat.le_of_ble_eq_true rfl⟩ ⟨rfl, rfl⟩ ⟨Nat.le_of_ble_eq_true rfl, Nat.le_of_ble_eq_true rfl⟩ 0 0 rfl bO_0 rfl rfl rfl (Nat.le_of_ble_eq_true rfl) dL_acts_1366 ((bO cI cC cR h0 h1 t0 t1 a b d ah w88).map (·.1)) bO_same rfl rfl ?_
                      refine kw_istore (lo' := [(0, .ref h0), (2, .int p3), (7, .int b2), (12, .int (f_L_low p3 2)), (16, .int x87), (17, .int b90)]) X dL_acts_1369 (by decide) [1, 2, 3, 4, 5, 0] rfl ?_
                      refine kw_iload X dL_acts_1371 4 rfl ?_
                      refine kw_if_eq X 1447 dL_acts_1373 (by decide) (fun q92 => ?_) (fun q92 => ?_)
                      · replace hF := (if_pos q92).symm.trans hF
                        refine kw_iconst X dL_acts_1447 ci_0 ?_
                        obtain ⟨rfl, rfl⟩ := si2 hF
                        refine kw_widen (n' := 2) (z' := 72) (by decide) (by decide) ?_
                        refine kb_first ?_
                        exact hret _ _ rfl dL_acts_1448
                      · replace hF := (if_neg q92).symm.trans hF
                        refine kw_iload X dL_acts_1376 5 rfl ?_
                        refine kw_aload_n X dL_acts_1378 rfl 0 rfl ?_
                        refine kw_iconst X dL_acts_1379 ci_0 ?_
                        obtain ⟨b93, hx93, hF⟩ := ob1_ex hF
                        refine kb_ap X (r := .int b93) (As := [.int 0]) (st := [.int b90]) (cm_count l D cI cC cR h0 h1 t0 t1 a b d ah w91 0 Z b93 hx93) vl_L_9 yv_X6_count ⟨Nat.le_of_ble_eq_true rfl, Nat.le_of_ble_eq_true rfl⟩ ⟨rfl, rfl⟩ ⟨Nat.le_of_ble_eq_true rfl, Nat.le_of_ble_eq_true rfl⟩ 0 0 rfl bO_0 rfl rfl rfl (Nat.le_of_ble_eq_true rfl) dL_acts_1380 ?_
                        refine kw_icmp_ne X 1447 dL_acts_1383 (by decide) (fun q94 => ?_) (fun q94 => ?_)
                        · replace hF := (if_neg q94).symm.trans hF
                          refine kw_iconst X dL_acts_1447 ci_0 ?_
                          obtain ⟨rfl, rfl⟩ := si2 hF
                          refine kw_widen (n' := 2) (z' := 72) (by decide) (by decide) ?_
                          refine kb_first ?_
                          exact hret _ _ rfl dL_acts_1448
                        · replace hF := (if_pos q94).symm.trans hF
                          refine kw_aload_n X dL_acts_1386 rfl 0 rfl ?_
                          refine kw_iload_n X dL_acts_1387 rfl 1 rfl ?_
                          refine kw_iconst X dL_acts_1388 ci_3 ?_
                          refine kw_ishr X dL_acts_1389 ?_
                          refine kw_bipush X dL_acts_1390 cb_10 ?_
                          refine kw_sp X (r := .int (f_L_low (p3 >>> ((3 : Int32) &&& 31)) 10)) (As := [.int (p3 >>> ((3 : Int32) &&& 31)), .int 10]) (st := [.ref h0]) (c_L_low l D cI cC cR (p3 >>> ((3 : Int32) &&& 31)) 10 (by decide)) vl_L_41 yv_L_low ⟨Nat.le_of_ble_eq_true rfl, Nat.le_of_ble_eq_true rfl⟩ ⟨rfl, rfl⟩ ⟨Nat.le_of_ble_eq_true rfl, Nat.le_of_ble_eq_true rfl⟩ [] rfl rfl rfl rfl (Nat.le_of_ble_eq_true rfl) dL_acts_1392 ?_
                          refine kw_iconst X dL_acts_1395 ci_3 ?_
                          obtain ⟨b95, w96, hx96, hF⟩ := ob2_ex hF
                          refine kb_sen X (r := .int b95) (As := [.ref h0, .int (f_L_low (p3 >>> ((3 : Int32) &&& 31)) 10), .int 3]) (st := []) (bs' := [bO cI cC cR h0 h1 t0 t1 a b d ah w96]) E (c_L_hour l D cI cC cR h0 h1 t0 t1 a b d ah w91 (f_L_low (p3 >>> ((3 : Int32) &&& 31)) 10) 3 Z b95 w96 (b01_ex hx96).1) vl_L_56 yv_L_hour ⟨Nat.le_of_ble_eq_true rfl, Nat.le_of_ble_eq_true rfl⟩ ⟨rfl, rfl⟩ ⟨Nat.le_of_ble_eq_true rfl, Nat.le_of_ble_eq_true rfl⟩ 0 rfl rfl rfl (Nat.le_of_ble_eq_true rfl) dL_acts_1396 bO_same rfl ?_
                          refine kw_if_eq X 1447 dL_acts_1399 (by decide) (fun q97 => ?_) (fun q97 => ?_)
                          · replace hF := (if_pos q97).symm.trans hF
                            refine kw_iconst X dL_acts_1447 ci_0 ?_
                            obtain ⟨rfl, rfl⟩ := si2 hF
                            refine kb_first ?_
                            exact hret _ _ rfl dL_acts_1448
                          · replace hF := (if_neg q97).symm.trans hF
                            refine kw_aload_n X dL_acts_1402 rfl 0 rfl ?_
                            refine kw_iload X dL_acts_1403 3 rfl ?_
                            obtain ⟨b98, w99, hx99, hF⟩ := ob2_ex hF
                            refine kb_aei X (r := .int b98) (As := [.int (f_L_low p3 2)]) (st := []) (bs' := [bO cI cC cR h0 h1 t0 t1 a b d ah w99]) E (cm_restore l D cI cC cR h0 h1 t0 t1 a b d ah w96 (f_L_low p3 2) b98 w99 hx99) vl_L_83 yv_X6_restore ⟨Nat.le_of_ble_eq_true rfl, Nat.le_of_ble_eq_true rfl⟩ ⟨rfl, rfl⟩ ⟨Nat.le_of_ble_eq_true rfl, Nat.le_of_ble_eq_true rfl⟩ 0 0 rfl bO_0 rfl rfl rfl (Nat.le_of_ble_eq_true rfl) dL_acts_1405 ((bO cI cC cR h0 h1 t0 t1 a b d ah w96).map (·.1)) bO_same rfl rfl ?_
                            refine kw_iload X dL_acts_1408 5 rfl ?_
                            refine kw_icmp_ne X 1447 dL_acts_1410 (by decide) (fun q100 => ?_) (fun q100 => ?_)
                            · replace hF := (if_neg q100).symm.trans hF
                              refine kw_iconst X dL_acts_1447 ci_0 ?_
                              obtain ⟨rfl, rfl⟩ := si2 hF
                              refine kb_first ?_
                              exact hret _ _ rfl dL_acts_1448
                            · replace hF := (if_pos q100).symm.trans hF
                              refine kw_aload_n X dL_acts_1413 rfl 0 rfl ?_
                              refine kw_iconst X dL_acts_1414 ci_0 ?_
                              obtain ⟨b101, hx101, hF⟩ := ob1_ex hF
                              refine kb_ap X (r := .int b101) (As := [.int 0]) (st := []) (cm_count l D cI cC cR h0 h1 t0 t1 a b d ah w99 0 Z b101 hx101) vl_L_9 yv_X6_count ⟨Nat.le_of_ble_eq_true rfl, Nat.le_of_ble_eq_true rfl⟩ ⟨rfl, rfl⟩ ⟨Nat.le_of_ble_eq_true rfl, Nat.le_of_ble_eq_true rfl⟩ 0 0 rfl bO_0 rfl rfl rfl (Nat.le_of_ble_eq_true rfl) dL_acts_1415 ?_
                              refine kw_iload X dL_acts_1418 5 rfl ?_
                              refine kw_icmp_ne X 1447 dL_acts_1420 (by decide) (fun q102 => ?_) (fun q102 => ?_)
                              · replace hF := (if_neg q102).symm.trans hF
                                refine kw_iconst X dL_acts_1447 ci_0 ?_
                                obtain ⟨rfl, rfl⟩ := si2 hF
                                refine kb_first ?_
                                exact hret _ _ rfl dL_acts_1448
                              · replace hF := (if_pos q102).symm.trans hF
                                refine kw_aload_n X dL_acts_1423 rfl 0 rfl ?_
                                refine kw_bipush X dL_acts_1424 cb_8 ?_
                                obtain ⟨b103, hx103, hF⟩ := ob1_ex hF
                                refine kb_ap X (r := .int b103) (As := [.int 8]) (st := []) (cm_count l D cI cC cR h0 h1 t0 t1 a b d ah w99 8 Z b103 hx103) vl_L_9 yv_X6_count ⟨Nat.le_of_ble_eq_true rfl, Nat.le_of_ble_eq_true rfl⟩ ⟨rfl, rfl⟩ ⟨Nat.le_of_ble_eq_true rfl, Nat.le_of_ble_eq_true rfl⟩ 0 0 rfl bO_0 rfl rfl rfl (Nat.le_of_ble_eq_true rfl) dL_acts_1426 ?_
                                refine kw_iload X dL_acts_1429 2 rfl ?_
                                refine kw_icmp_ne X 1447 dL_acts_1431 (by decide) (fun q104 => ?_) (fun q104 => ?_)
                                · replace hF := (if_neg q104).symm.trans hF
                                  refine kw_iconst X dL_acts_1447 ci_0 ?_
                                  obtain ⟨rfl, rfl⟩ := si2 hF
                                  refine kb_first ?_
                                  exact hret _ _ rfl dL_acts_1448
                                · replace hF := (if_pos q104).symm.trans hF
                                  refine kw_aload_n X dL_acts_1434 rfl 0 rfl ?_
                                  refine kw_iconst X dL_acts_1435 ci_2 ?_
                                  obtain ⟨b105, w106, hx106, hF⟩ := ob2_ex hF
                                  refine kb_aei X (r := .int b105) (As := [.int 2]) (st := []) (bs' := [bO cI cC cR h0 h1 t0 t1 a b d ah w106]) E (cm_restore l D cI cC cR h0 h1 t0 t1 a b d ah w99 2 b105 w106 hx106) vl_L_83 yv_X6_restore ⟨Nat.le_of_ble_eq_true rfl, Nat.le_of_ble_eq_true rfl⟩ ⟨rfl, rfl⟩ ⟨Nat.le_of_ble_eq_true rfl, Nat.le_of_ble_eq_true rfl⟩ 0 0 rfl bO_0 rfl rfl rfl (Nat.le_of_ble_eq_true rfl) dL_acts_1436 ((bO cI cC cR h0 h1 t0 t1 a b d ah w99).map (·.1)) bO_same rfl rfl ?_
                                  refine kw_iconst X dL_acts_1439 ci_m1 ?_
                                  refine kw_icmp_ne X 1447 dL_acts_1440 (by decide) (fun q107 => ?_) (fun q107 => ?_)
                                  · replace hF := (if_neg q107).symm.trans hF
                                    refine kw_iconst X dL_acts_1447 ci_0 ?_
                                    obtain ⟨rfl, rfl⟩ := si2 hF
                                    refine kb_first ?_
                                    exact hret _ _ rfl dL_acts_1448
                                  · replace hF := (if_pos q107).symm.trans hF
                                    refine kw_iconst X dL_acts_1443 ci_1 ?_
                                    refine kw_goto X 1448 dL_acts_1444 (by decide) ?_
                                    obtain ⟨rfl, rfl⟩ := si2 hF
                                    refine kb_first ?_
                                    exact hret _ _ rfl dL_acts_1448
                    replace hF := hx89
                    refine kw_if_lt X 1360 dL_acts_1313 (by decide) (fun q71 => ?_) (fun q71 => ?_)
                    · replace hF := (if_pos q71).symm.trans hF
                      refine kw_iconst X dL_acts_1360 ci_0 ?_
                      refine kw_loc (lo' := [(0, .ref h0), (2, .int p3), (7, .int b2), (12, .int (f_L_low p3 2))]) [0, 1, 2, 3] rfl ?_
                      obtain ⟨rfl, rfl⟩ := si2 hF
                      exact J
                    · replace hF := (if_neg q71).symm.trans hF
                      refine kw_iload X dL_acts_1316 6 rfl ?_
                      refine kw_bipush X dL_acts_1318 cb_99 ?_
                      refine kw_icmp_eq X 1349 dL_acts_1320 (by decide) (fun q108 => ?_) (fun q108 => ?_)
                      · replace hF := (if_pos q108).symm.trans hF
                        refine kw_aload_n X dL_acts_1349 rfl 0 rfl ?_
                        obtain ⟨b109, w110, hx110, hF⟩ := ob2_ex hF
                        refine kb_aei X (r := .int b109) (As := []) (st := []) (bs' := [bO cI cC cR h0 h1 t0 t1 a b d ah w110]) E (cm_level l D cI cC cR h0 h1 t0 t1 a b d ah w14 Z b109 w110 hx110) vl_L_77 yv_X6_level ⟨Nat.le_of_ble_eq_true rfl, Nat.le_of_ble_eq_true rfl⟩ ⟨rfl, rfl⟩ ⟨Nat.le_of_ble_eq_true rfl, Nat.le_of_ble_eq_true rfl⟩ 0 0 rfl bO_0 rfl rfl rfl (Nat.le_of_ble_eq_true rfl) dL_acts_1350 ((bO cI cC cR h0 h1 t0 t1 a b d ah w14).map (·.1)) bO_same rfl rfl ?_
                        refine kw_if_ne X 1360 dL_acts_1353 (by decide) (fun q111 => ?_) (fun q111 => ?_)
                        · replace hF := (if_neg q111).symm.trans hF
                          refine kw_iconst X dL_acts_1360 ci_0 ?_
                          refine kw_loc (lo' := [(0, .ref h0), (2, .int p3), (7, .int b2), (12, .int (f_L_low p3 2))]) [0, 1, 2, 3] rfl ?_
                          obtain ⟨rfl, rfl⟩ := si2 hF
                          exact J
                        · replace hF := (if_pos q111).symm.trans hF
                          refine kw_iconst X dL_acts_1356 ci_1 ?_
                          refine kw_goto X 1361 dL_acts_1357 (by decide) ?_
                          refine kw_loc (lo' := [(0, .ref h0), (2, .int p3), (7, .int b2), (12, .int (f_L_low p3 2))]) [0, 1, 2, 3] rfl ?_
                          obtain ⟨rfl, rfl⟩ := si2 hF
                          exact J
                      · replace hF := (if_neg q108).symm.trans hF
                        refine kw_aload_n X dL_acts_1323 rfl 0 rfl ?_
                        refine kw_iload X dL_acts_1324 5 rfl ?_
                        refine kw_iconst X dL_acts_1326 ci_1 ?_
                        obtain ⟨b112, hx112, hF⟩ := ob1_ex hF
                        refine kb_ap X (r := .int b112) (As := [.int e69, .int 1]) (st := []) (cm_stand l D cI cC cR h0 h1 t0 t1 a b d ah w14 e69 1 Z b112 hx112) vl_L_24 yv_X6_stand ⟨Nat.le_of_ble_eq_true rfl, Nat.le_of_ble_eq_true rfl⟩ ⟨rfl, rfl⟩ ⟨Nat.le_of_ble_eq_true rfl, Nat.le_of_ble_eq_true rfl⟩ 0 0 rfl bO_0 rfl rfl rfl (Nat.le_of_ble_eq_true rfl) dL_acts_1327 ?_
                        refine kw_iload X dL_acts_1330 6 rfl ?_
                        refine kw_iconst X dL_acts_1332 ci_2 ?_
                        refine kw_iadd X dL_acts_1333 ?_
                        refine kw_icmp_lt X 1349 dL_acts_1334 (by decide) (fun q113 => ?_) (fun q113 => ?_)
                        · replace hF := (if_pos q113).symm.trans hF
                          refine kw_aload_n X dL_acts_1349 rfl 0 rfl ?_
                          obtain ⟨b114, w115, hx115, hF⟩ := ob2_ex hF
                          refine kb_aei X (r := .int b114) (As := []) (st := []) (bs' := [bO cI cC cR h0 h1 t0 t1 a b d ah w115]) E (cm_level l D cI cC cR h0 h1 t0 t1 a b d ah w14 Z b114 w115 hx115) vl_L_77 yv_X6_level ⟨Nat.le_of_ble_eq_true rfl, Nat.le_of_ble_eq_true rfl⟩ ⟨rfl, rfl⟩ ⟨Nat.le_of_ble_eq_true rfl, Nat.le_of_ble_eq_true rfl⟩ 0 0 rfl bO_0 rfl rfl rfl (Nat.le_of_ble_eq_true rfl) dL_acts_1350 ((bO cI cC cR h0 h1 t0 t1 a b d ah w14).map (·.1)) bO_same rfl rfl ?_
                          refine kw_if_ne X 1360 dL_acts_1353 (by decide) (fun q116 => ?_) (fun q116 => ?_)
                          · replace hF := (if_neg q116).symm.trans hF
                            refine kw_iconst X dL_acts_1360 ci_0 ?_
                            refine kw_loc (lo' := [(0, .ref h0), (2, .int p3), (7, .int b2), (12, .int (f_L_low p3 2))]) [0, 1, 2, 3] rfl ?_
                            obtain ⟨rfl, rfl⟩ := si2 hF
                            exact J
                          · replace hF := (if_pos q116).symm.trans hF
                            refine kw_iconst X dL_acts_1356 ci_1 ?_
                            refine kw_goto X 1361 dL_acts_1357 (by decide) ?_
                            refine kw_loc (lo' := [(0, .ref h0), (2, .int p3), (7, .int b2), (12, .int (f_L_low p3 2))]) [0, 1, 2, 3] rfl ?_
                            obtain ⟨rfl, rfl⟩ := si2 hF
                            exact J
                        · replace hF := (if_neg q113).symm.trans hF
                          refine kw_aload_n X dL_acts_1337 rfl 0 rfl ?_
                          refine kw_iload X dL_acts_1338 5 rfl ?_
                          refine kw_iconst X dL_acts_1340 ci_3 ?_
                          obtain ⟨b117, hx117, hF⟩ := ob1_ex hF
                          refine kb_ap X (r := .int b117) (As := [.int e69, .int 3]) (st := []) (cm_stand l D cI cC cR h0 h1 t0 t1 a b d ah w14 e69 3 Z b117 hx117) vl_L_24 yv_X6_stand ⟨Nat.le_of_ble_eq_true rfl, Nat.le_of_ble_eq_true rfl⟩ ⟨rfl, rfl⟩ ⟨Nat.le_of_ble_eq_true rfl, Nat.le_of_ble_eq_true rfl⟩ 0 0 rfl bO_0 rfl rfl rfl (Nat.le_of_ble_eq_true rfl) dL_acts_1341 ?_
                          refine kw_bipush X dL_acts_1344 cb_m9 ?_
                          refine kw_icmp_ne X 1360 dL_acts_1346 (by decide) (fun q118 => ?_) (fun q118 => ?_)
                          · replace hF := (if_neg q118).symm.trans hF
                            refine kw_iconst X dL_acts_1360 ci_0 ?_
                            refine kw_loc (lo' := [(0, .ref h0), (2, .int p3), (7, .int b2), (12, .int (f_L_low p3 2))]) [0, 1, 2, 3] rfl ?_
                            obtain ⟨rfl, rfl⟩ := si2 hF
                            exact J
                          · replace hF := (if_pos q118).symm.trans hF
                            refine kw_aload_n X dL_acts_1349 rfl 0 rfl ?_
                            obtain ⟨b119, w120, hx120, hF⟩ := ob2_ex hF
                            refine kb_aei X (r := .int b119) (As := []) (st := []) (bs' := [bO cI cC cR h0 h1 t0 t1 a b d ah w120]) E (cm_level l D cI cC cR h0 h1 t0 t1 a b d ah w14 Z b119 w120 hx120) vl_L_77 yv_X6_level ⟨Nat.le_of_ble_eq_true rfl, Nat.le_of_ble_eq_true rfl⟩ ⟨rfl, rfl⟩ ⟨Nat.le_of_ble_eq_true rfl, Nat.le_of_ble_eq_true rfl⟩ 0 0 rfl bO_0 rfl rfl rfl (Nat.le_of_ble_eq_true rfl) dL_acts_1350 ((bO cI cC cR h0 h1 t0 t1 a b d ah w14).map (·.1)) bO_same rfl rfl ?_
                            refine kw_if_ne X 1360 dL_acts_1353 (by decide) (fun q121 => ?_) (fun q121 => ?_)
                            · replace hF := (if_neg q121).symm.trans hF
                              refine kw_iconst X dL_acts_1360 ci_0 ?_
                              refine kw_loc (lo' := [(0, .ref h0), (2, .int p3), (7, .int b2), (12, .int (f_L_low p3 2))]) [0, 1, 2, 3] rfl ?_
                              obtain ⟨rfl, rfl⟩ := si2 hF
                              exact J
                            · replace hF := (if_pos q121).symm.trans hF
                              refine kw_iconst X dL_acts_1356 ci_1 ?_
                              refine kw_goto X 1361 dL_acts_1357 (by decide) ?_
                              refine kw_loc (lo' := [(0, .ref h0), (2, .int p3), (7, .int b2), (12, .int (f_L_low p3 2))]) [0, 1, 2, 3] rfl ?_
                              obtain ⟨rfl, rfl⟩ := si2 hF
                              exact J
                  have hL1229 : ∀ (F : Nat) (v14_122 : Int32) (v15_123 : Int32) (v16_124 : Int32), f_L_acts_L1229 Z w14 F v14_122 v15_123 v16_124 = some (e69, e70) → KW Γ 0 0 (wj [bO cI cC cR h0 h1 t0 t1 a b d ah w14]) [(0, .ref h0), (2, .int p3), (7, .int b2), (12, .int (f_L_low p3 2)), (13, .int b13), (14, .int v14_122), (15, .int v15_123), (16, .int v16_124)] 1229 [] := by
                    intro F
                    induction F with
                    | zero => intro v14_122 v15_123 v16_124 hF; exact none_some hF
                    | succ F ih1229 =>
                      intro v14_122 v15_123 v16_124 hF
                      rw [f_L_acts_L1229] at hF
                      refine kw_iload X dL_acts_1229 7 rfl ?_
                      refine kw_bipush X dL_acts_1231 cb_8 ?_
                      refine kw_icmp_ge X 1311 dL_acts_1233 (by decide) (fun q125 => ?_) (fun q125 => ?_)
                      · replace hF := (if_neg q125).symm.trans hF
                        refine kw_loc (lo' := [(0, .ref h0), (2, .int p3), (7, .int b2), (12, .int (f_L_low p3 2)), (13, .int b13), (14, .int v14_122), (15, .int v15_123)]) [0, 1, 2, 3, 4, 5, 6] rfl ?_
                        obtain ⟨rfl, rfl⟩ := si2 hF
                        exact J
                      · replace hF := (if_pos q125).symm.trans hF
                        refine kw_aload_n X dL_acts_1236 rfl 0 rfl ?_
                        refine kw_iload X dL_acts_1237 7 rfl ?_
                        refine kw_iconst X dL_acts_1239 ci_1 ?_
                        obtain ⟨b126, hx126, hF⟩ := ob1_ex hF
                        refine kb_ap X (r := .int b126) (As := [.int v16_124, .int 1]) (st := []) (cm_stand l D cI cC cR h0 h1 t0 t1 a b d ah w14 v16_124 1 Z b126 hx126) vl_L_24 yv_X6_stand ⟨Nat.le_of_ble_eq_true rfl, Nat.le_of_ble_eq_true rfl⟩ ⟨rfl, rfl⟩ ⟨Nat.le_of_ble_eq_true rfl, Nat.le_of_ble_eq_true rfl⟩ 0 0 rfl bO_0 rfl rfl rfl (Nat.le_of_ble_eq_true rfl) dL_acts_1240 ?_
                        refine kw_aload_n X dL_acts_1243 rfl 0 rfl ?_
                        refine kw_iload X dL_acts_1244 5 rfl ?_
                        refine kw_iconst X dL_acts_1246 ci_1 ?_
                        obtain ⟨b127, hx127, hF⟩ := ob1_ex hF
                        refine kb_ap X (r := .int b127) (As := [.int v14_122, .int 1]) (st := [.int b126]) (cm_stand l D cI cC cR h0 h1 t0 t1 a b d ah w14 v14_122 1 Z b127 hx127) vl_L_24 yv_X6_stand ⟨Nat.le_of_ble_eq_true rfl, Nat.le_of_ble_eq_true rfl⟩ ⟨rfl, rfl⟩ ⟨Nat.le_of_ble_eq_true rfl, Nat.le_of_ble_eq_true rfl⟩ 0 0 rfl bO_0 rfl rfl rfl (Nat.le_of_ble_eq_true rfl) dL_acts_1247 ?_
                        obtain ⟨x129, hx130, hF⟩ := pl1_ex hF
                        have J : KW Γ 0 0 (wj [bO cI cC cR h0 h1 t0 t1 a b d ah w14]) [(0, .ref h0), (2, .int p3), (7, .int b2), (12, .int (f_L_low p3 2)), (13, .int b13), (15, .int v15_123), (16, .int v16_124)] 1260 [.int x129] := by
                          refine kw_istore (lo' := [(0, .ref h0), (2, .int p3), (7, .int b2), (12, .int (f_L_low p3 2)), (13, .int b13), (14, .int x129), (15, .int v15_123), (16, .int v16_124)]) X dL_acts_1260 (by decide) [1, 2, 3, 4, 5, 0, 6, 7] rfl ?_
                          refine kw_aload_n X dL_acts_1262 rfl 0 rfl ?_
                          refine kw_iload X dL_acts_1263 7 rfl ?_
                          refine kw_iconst X dL_acts_1265 ci_1 ?_
                          obtain ⟨b131, hx131, hF⟩ := ob1_ex hF
                          refine kb_ap X (r := .int b131) (As := [.int v16_124, .int 1]) (st := []) (cm_stand l D cI cC cR h0 h1 t0 t1 a b d ah w14 v16_124 1 Z b131 hx131) vl_L_24 yv_X6_stand ⟨Nat.le_of_ble_eq_true rfl, Nat.le_of_ble_eq_true rfl⟩ ⟨rfl, rfl⟩ ⟨Nat.le_of_ble_eq_true rfl, Nat.le_of_ble_eq_true rfl⟩ 0 0 rfl bO_0 rfl rfl rfl (Nat.le_of_ble_eq_true rfl) dL_acts_1266 ?_
                          refine kw_aload_n X dL_acts_1269 rfl 0 rfl ?_
                          refine kw_iload X dL_acts_1270 7 rfl ?_
                          refine kw_iconst X dL_acts_1272 ci_0 ?_
                          obtain ⟨b132, hx132, hF⟩ := ob1_ex hF
                          refine kb_ap X (r := .int b132) (As := [.int v16_124, .int 0]) (st := [.int b131]) (cm_stand l D cI cC cR h0 h1 t0 t1 a b d ah w14 v16_124 0 Z b132 hx132) vl_L_24 yv_X6_stand ⟨Nat.le_of_ble_eq_true rfl, Nat.le_of_ble_eq_true rfl⟩ ⟨rfl, rfl⟩ ⟨Nat.le_of_ble_eq_true rfl, Nat.le_of_ble_eq_true rfl⟩ 0 0 rfl bO_0 rfl rfl rfl (Nat.le_of_ble_eq_true rfl) dL_acts_1273 ?_
                          obtain ⟨x137, hx138, hF⟩ := ob1_ex hF
                          have J : KW Γ 0 0 (wj [bO cI cC cR h0 h1 t0 t1 a b d ah w14]) [(0, .ref h0), (2, .int p3), (7, .int b2), (12, .int (f_L_low p3 2)), (13, .int b13), (14, .int x129), (16, .int v16_124)] 1303 [.int x137] := by
                            refine kw_istore (lo' := [(0, .ref h0), (2, .int p3), (7, .int b2), (12, .int (f_L_low p3 2)), (13, .int b13), (14, .int x129), (15, .int x137), (16, .int v16_124)]) X dL_acts_1303 (by decide) [1, 2, 3, 4, 5, 6, 0, 7] rfl ?_
                            refine kw_iinc (lo' := [(0, .ref h0), (2, .int p3), (7, .int b2), (12, .int (f_L_low p3 2)), (13, .int b13), (14, .int x129), (15, .int x137), (16, .int (v16_124 + 1))]) X dL_acts_1305 7 rfl (congrArg (fun w => v16_124 + w) ci_1) (by decide) [1, 2, 3, 4, 5, 6, 7, 0] rfl ?_
                            refine kw_goto X 1229 dL_acts_1308 (by decide) ?_
                            exact ih1229 _ _ _ hF
                          replace hF := hx138
                          refine kw_icmp_ge X 1301 dL_acts_1276 (by decide) (fun q133 => ?_) (fun q133 => ?_)
                          · replace hF := (if_neg q133).symm.trans hF
                            refine kw_iload X dL_acts_1301 6 rfl ?_
                            refine kw_loc (lo' := [(0, .ref h0), (2, .int p3), (7, .int b2), (12, .int (f_L_low p3 2)), (13, .int b13), (14, .int x129), (16, .int v16_124)]) [0, 1, 2, 3, 4, 5, 7] rfl ?_
                            obtain rfl := si1 hF
                            exact J
                          · replace hF := (if_pos q133).symm.trans hF
                            refine kw_aload_n X dL_acts_1279 rfl 0 rfl ?_
                            refine kw_iload X dL_acts_1280 7 rfl ?_
                            refine kw_iconst X dL_acts_1282 ci_1 ?_
                            obtain ⟨b139, hx139, hF⟩ := ob1_ex hF
                            refine kb_ap X (r := .int b139) (As := [.int v16_124, .int 1]) (st := []) (cm_stand l D cI cC cR h0 h1 t0 t1 a b d ah w14 v16_124 1 Z b139 hx139) vl_L_24 yv_X6_stand ⟨Nat.le_of_ble_eq_true rfl, Nat.le_of_ble_eq_true rfl⟩ ⟨rfl, rfl⟩ ⟨Nat.le_of_ble_eq_true rfl, Nat.le_of_ble_eq_true rfl⟩ 0 0 rfl bO_0 rfl rfl rfl (Nat.le_of_ble_eq_true rfl) dL_acts_1283 ?_
                            refine kw_iload X dL_acts_1286 6 rfl ?_
                            refine kw_icmp_ge X 1301 dL_acts_1288 (by decide) (fun q140 => ?_) (fun q140 => ?_)
                            · replace hF := (if_neg q140).symm.trans hF
                              refine kw_iload X dL_acts_1301 6 rfl ?_
                              refine kw_loc (lo' := [(0, .ref h0), (2, .int p3), (7, .int b2), (12, .int (f_L_low p3 2)), (13, .int b13), (14, .int x129), (16, .int v16_124)]) [0, 1, 2, 3, 4, 5, 7] rfl ?_
                              obtain rfl := si1 hF
                              exact J
                            · replace hF := (if_pos q140).symm.trans hF
                              refine kw_aload_n X dL_acts_1291 rfl 0 rfl ?_
                              refine kw_iload X dL_acts_1292 7 rfl ?_
                              refine kw_iconst X dL_acts_1294 ci_1 ?_
                              obtain ⟨b141, hx141, hF⟩ := ob1_ex hF
                              refine kb_ap X (r := .int b141) (As := [.int v16_124, .int 1]) (st := []) (cm_stand l D cI cC cR h0 h1 t0 t1 a b d ah w14 v16_124 1 Z b141 hx141) vl_L_24 yv_X6_stand ⟨Nat.le_of_ble_eq_true rfl, Nat.le_of_ble_eq_true rfl⟩ ⟨rfl, rfl⟩ ⟨Nat.le_of_ble_eq_true rfl, Nat.le_of_ble_eq_true rfl⟩ 0 0 rfl bO_0 rfl rfl rfl (Nat.le_of_ble_eq_true rfl) dL_acts_1295 ?_
                              refine kw_goto X 1303 dL_acts_1298 (by decide) ?_
                              refine kw_loc (lo' := [(0, .ref h0), (2, .int p3), (7, .int b2), (12, .int (f_L_low p3 2)), (13, .int b13), (14, .int x129), (16, .int v16_124)]) [0, 1, 2, 3, 4, 5, 7] rfl ?_
                              obtain rfl := si1 hF
                              exact J
                        replace hF := hx130
                        refine kw_icmp_le X 1258 dL_acts_1250 (by decide) (fun q128 => ?_) (fun q128 => ?_)
                        · replace hF := (if_neg q128).symm.trans hF
                          refine kw_iload X dL_acts_1258 5 rfl ?_
                          refine kw_loc (lo' := [(0, .ref h0), (2, .int p3), (7, .int b2), (12, .int (f_L_low p3 2)), (13, .int b13), (15, .int v15_123), (16, .int v16_124)]) [0, 1, 2, 3, 4, 6, 7] rfl ?_
                          obtain rfl := ti1 hF
                          exact J
                        · replace hF := (if_pos q128).symm.trans hF
                          refine kw_iload X dL_acts_1253 7 rfl ?_
                          refine kw_goto X 1260 dL_acts_1255 (by decide) ?_
                          refine kw_loc (lo' := [(0, .ref h0), (2, .int p3), (7, .int b2), (12, .int (f_L_low p3 2)), (13, .int b13), (15, .int v15_123), (16, .int v16_124)]) [0, 1, 2, 3, 4, 6, 7] rfl ?_
                          obtain rfl := ti1 hF
                          exact J
                  exact hL1229 Z _ _ _ hx
                · replace hF := (if_pos q12).symm.trans hF
                  refine kw_aload_n X dL_acts_996 rfl 0 rfl ?_
                  refine kw_iconst X dL_acts_997 ci_5 ?_
                  obtain ⟨b142, hx142, hF⟩ := ob1_ex hF
                  refine kb_ap X (r := .int b142) (As := [.int 5]) (st := []) (cm_count l D cI cC cR h0 h1 t0 t1 a b d ah v 5 Z b142 hx142) vl_L_9 yv_X6_count ⟨Nat.le_of_ble_eq_true rfl, Nat.le_of_ble_eq_true rfl⟩ ⟨rfl, rfl⟩ ⟨Nat.le_of_ble_eq_true rfl, Nat.le_of_ble_eq_true rfl⟩ 0 0 rfl bO_0 rfl rfl rfl (Nat.le_of_ble_eq_true rfl) dL_acts_998 ?_
                  refine kw_istore (lo' := [(0, .ref h0), (1, .int p2), (2, .int p3), (3, .int (f_L_low p2 16)), (4, .int (f_L_low p3 8)), (5, .int (f_L_low (p3 >>> ((3 : Int32) &&& 31)) 12)), (6, .int b1), (7, .int b2), (8, .int b3), (9, .int (f_L_low (p3 >>> ((3 : Int32) &&& 31)) 2)), (10, .int (1 + (f_L_low (p3 >>> ((5 : Int32) &&& 31)) 6))), (11, .int b9), (12, .int b142)]) X dL_acts_1001 (by decide) [1, 2, 3, 4, 5, 6, 7, 8, 9, 10, 11, 12, 0] rfl ?_
                  refine kw_aload_n X dL_acts_1003 rfl 0 rfl ?_
                  refine kw_iload X dL_acts_1004 9 rfl ?_
                  obtain ⟨b143, w144, hx144, hF⟩ := ob2_ex hF
                  refine kb_aei X (r := .int b143) (As := [.int (f_L_low (p3 >>> ((3 : Int32) &&& 31)) 2)]) (st := []) (bs' := [bO cI cC cR h0 h1 t0 t1 a b d ah w144]) E (cm_toWorkshop l D cI cC cR h0 h1 t0 t1 a b d ah v (f_L_low (p3 >>> ((3 : Int32) &&& 31)) 2) Z b143 w144 hx144) vl_L_71 yv_X6_toWorkshop ⟨Nat.le_of_ble_eq_true rfl, Nat.le_of_ble_eq_true rfl⟩ ⟨rfl, rfl⟩ ⟨Nat.le_of_ble_eq_true rfl, Nat.le_of_ble_eq_true rfl⟩ 0 0 rfl bO_0 rfl rfl rfl (Nat.le_of_ble_eq_true rfl) dL_acts_1006 ((bO cI cC cR h0 h1 t0 t1 a b d ah v).map (·.1)) bO_same rfl rfl ?_
                  refine kw_istore (lo' := [(0, .ref h0), (1, .int p2), (2, .int p3), (3, .int (f_L_low p2 16)), (4, .int (f_L_low p3 8)), (5, .int (f_L_low (p3 >>> ((3 : Int32) &&& 31)) 12)), (6, .int b1), (7, .int b2), (8, .int b3), (9, .int (f_L_low (p3 >>> ((3 : Int32) &&& 31)) 2)), (10, .int (1 + (f_L_low (p3 >>> ((5 : Int32) &&& 31)) 6))), (11, .int b9), (12, .int b142), (13, .int b143)]) X dL_acts_1009 (by decide) [1, 2, 3, 4, 5, 6, 7, 8, 9, 10, 11, 12, 13, 0] rfl ?_
                  refine kw_aload_n X dL_acts_1011 rfl 0 rfl ?_
                  refine kw_bipush X dL_acts_1012 cb_6 ?_
                  obtain ⟨b145, hx145, hF⟩ := ob1_ex hF
                  refine kb_ap X (r := .int b145) (As := [.int 6]) (st := []) (cm_count l D cI cC cR h0 h1 t0 t1 a b d ah w144 6 Z b145 hx145) vl_L_9 yv_X6_count ⟨Nat.le_of_ble_eq_true rfl, Nat.le_of_ble_eq_true rfl⟩ ⟨rfl, rfl⟩ ⟨Nat.le_of_ble_eq_true rfl, Nat.le_of_ble_eq_true rfl⟩ 0 0 rfl bO_0 rfl rfl rfl (Nat.le_of_ble_eq_true rfl) dL_acts_1014 ?_
                  refine kw_istore (lo' := [(0, .ref h0), (1, .int p2), (2, .int p3), (3, .int (f_L_low p2 16)), (4, .int (f_L_low p3 8)), (5, .int (f_L_low (p3 >>> ((3 : Int32) &&& 31)) 12)), (6, .int b1), (7, .int b2), (8, .int b3), (9, .int (f_L_low (p3 >>> ((3 : Int32) &&& 31)) 2)), (10, .int (1 + (f_L_low (p3 >>> ((5 : Int32) &&& 31)) 6))), (11, .int b9), (12, .int b142), (13, .int b143), (14, .int b145)]) X dL_acts_1017 (by decide) [1, 2, 3, 4, 5, 6, 7, 8, 9, 10, 11, 12, 13, 14, 0] rfl ?_
                  refine kw_iload X dL_acts_1019 12 rfl ?_
                  refine kw_iload X dL_acts_1021 13 rfl ?_
                  obtain ⟨x147, hx148, hF⟩ := pl1_ex hF
                  have J : KW Γ 0 0 (wj [bO cI cC cR h0 h1 t0 t1 a b d ah w144]) [(0, .ref h0), (4, .int (f_L_low p3 8)), (7, .int b2), (8, .int b3), (11, .int b9), (13, .int b143), (14, .int b145)] 1032 [.int x147, .int b142] := by
                    refine kw_iadd X dL_acts_1032 ?_
                    refine kw_istore (lo' := [(0, .ref h0), (4, .int (f_L_low p3 8)), (7, .int b2), (8, .int b3), (11, .int b9), (13, .int b143), (14, .int b145), (15, .int (b142 + x147))]) X dL_acts_1033 (by decide) [1, 2, 3, 4, 5, 6, 7, 0] rfl ?_
                    refine kw_aload_n X dL_acts_1035 rfl 0 rfl ?_
                    refine kw_iconst X dL_acts_1036 ci_5 ?_
                    obtain ⟨b149, hx149, hF⟩ := ob1_ex hF
                    refine kb_ap X (r := .int b149) (As := [.int 5]) (st := []) (cm_count l D cI cC cR h0 h1 t0 t1 a b d ah w144 5 Z b149 hx149) vl_L_9 yv_X6_count ⟨Nat.le_of_ble_eq_true rfl, Nat.le_of_ble_eq_true rfl⟩ ⟨rfl, rfl⟩ ⟨Nat.le_of_ble_eq_true rfl, Nat.le_of_ble_eq_true rfl⟩ 0 0 rfl bO_0 rfl rfl rfl (Nat.le_of_ble_eq_true rfl) dL_acts_1037 ?_
                    refine kw_iload X dL_acts_1040 7 rfl ?_
                    obtain ⟨x153, w154, hx155, hF⟩ := ob2_ex hF
                    have J : KW Γ 0 0 (wj [bO cI cC cR h0 h1 t0 t1 a b d ah w154]) [(0, .ref h0), (4, .int (f_L_low p3 8)), (7, .int b2), (8, .int b3), (11, .int b9), (13, .int b143), (14, .int b145), (15, .int (b142 + x147))] 1055 [.int x153] := by
                      refine kw_istore (lo' := [(0, .ref h0), (4, .int (f_L_low p3 8)), (7, .int b2), (8, .int b3), (11, .int b9), (13, .int b143), (14, .int b145), (15, .int (b142 + x147)), (16, .int x153)]) X dL_acts_1055 (by decide) [1, 2, 3, 4, 5, 6, 7, 8, 0] rfl ?_
                      refine kw_iload X dL_acts_1057 5 rfl ?_
                      refine kw_bipush X dL_acts_1059 cb_m2 ?_
                      refine kw_icmp_eq X 1082 dL_acts_1061 (by decide) (fun q156 => ?_) (fun q156 => ?_)
                      · replace hF := (if_pos q156).symm.trans hF
                        refine kw_iload X dL_acts_1082 8 rfl ?_
                        refine kw_bipush X dL_acts_1084 cb_m2 ?_
                        refine kw_icmp_ne X 1113 dL_acts_1086 (by decide) (fun q157 => ?_) (fun q157 => ?_)
                        · replace hF := (if_neg q157).symm.trans hF
                          refine kw_iload X dL_acts_1113 8 rfl ?_
                          refine kw_bipush X dL_acts_1115 cb_m3 ?_
                          refine kw_icmp_ne X 1135 dL_acts_1117 (by decide) (fun q158 => ?_) (fun q158 => ?_)
                          · replace hF := (if_neg q158).symm.trans hF
                            refine kw_iload X dL_acts_1135 8 rfl ?_
                            refine kw_if_lt X 1204 dL_acts_1137 (by decide) (fun q159 => ?_) (fun q159 => ?_)
                            · replace hF := (if_pos q159).symm.trans hF
                              refine kw_iconst X dL_acts_1204 ci_0 ?_
                              obtain ⟨rfl, rfl⟩ := si2 hF
                              refine kw_widen (n' := 2) (z' := 72) (by decide) (by decide) ?_
                              refine kb_first ?_
                              exact hret _ _ rfl dL_acts_1205
                            · replace hF := (if_neg q159).symm.trans hF
                              refine kw_aload_n X dL_acts_1140 rfl 0 rfl ?_
                              refine kw_iload X dL_acts_1141 8 rfl ?_
                              refine kw_iconst X dL_acts_1143 ci_3 ?_
                              obtain ⟨b160, hx160, hF⟩ := ob1_ex hF
                              refine kb_ap X (r := .int b160) (As := [.int x153, .int 3]) (st := []) (cm_umbrella l D cI cC cR h0 h1 t0 t1 a b d ah w154 x153 3 b160 hx160) vl_L_15 yv_X6_umbrella ⟨Nat.le_of_ble_eq_true rfl, Nat.le_of_ble_eq_true rfl⟩ ⟨rfl, rfl⟩ ⟨Nat.le_of_ble_eq_true rfl, Nat.le_of_ble_eq_true rfl⟩ 0 0 rfl bO_0 rfl rfl rfl (Nat.le_of_ble_eq_true rfl) dL_acts_1144 ?_
                              refine kw_if_ne X 1204 dL_acts_1147 (by decide) (fun q161 => ?_) (fun q161 => ?_)
                              · replace hF := (if_neg q161).symm.trans hF
                                refine kw_iconst X dL_acts_1204 ci_0 ?_
                                obtain ⟨rfl, rfl⟩ := si2 hF
                                refine kw_widen (n' := 2) (z' := 72) (by decide) (by decide) ?_
                                refine kb_first ?_
                                exact hret _ _ rfl dL_acts_1205
                              · replace hF := (if_pos q161).symm.trans hF
                                refine kw_aload_n X dL_acts_1150 rfl 0 rfl ?_
                                refine kw_iload X dL_acts_1151 8 rfl ?_
                                refine kw_iconst X dL_acts_1153 ci_1 ?_
                                obtain ⟨b162, hx162, hF⟩ := ob1_ex hF
                                refine kb_ap X (r := .int b162) (As := [.int x153, .int 1]) (st := []) (cm_umbrella l D cI cC cR h0 h1 t0 t1 a b d ah w154 x153 1 b162 hx162) vl_L_15 yv_X6_umbrella ⟨Nat.le_of_ble_eq_true rfl, Nat.le_of_ble_eq_true rfl⟩ ⟨rfl, rfl⟩ ⟨Nat.le_of_ble_eq_true rfl, Nat.le_of_ble_eq_true rfl⟩ 0 0 rfl bO_0 rfl rfl rfl (Nat.le_of_ble_eq_true rfl) dL_acts_1154 ?_
                                refine kw_iload X dL_acts_1157 1 rfl ?_
                                refine kw_icmp_ne X 1204 dL_acts_1159 (by decide) (fun q163 => ?_) (fun q163 => ?_)
                                · replace hF := (if_neg q163).symm.trans hF
                                  refine kw_iconst X dL_acts_1204 ci_0 ?_
                                  obtain ⟨rfl, rfl⟩ := si2 hF
                                  refine kw_widen (n' := 2) (z' := 72) (by decide) (by decide) ?_
                                  refine kb_first ?_
                                  exact hret _ _ rfl dL_acts_1205
                                · replace hF := (if_pos q163).symm.trans hF
                                  refine kw_aload_n X dL_acts_1162 rfl 0 rfl ?_
                                  refine kw_bipush X dL_acts_1163 cb_6 ?_
                                  obtain ⟨b164, hx164, hF⟩ := ob1_ex hF
                                  refine kb_ap X (r := .int b164) (As := [.int 6]) (st := []) (cm_count l D cI cC cR h0 h1 t0 t1 a b d ah w154 6 Z b164 hx164) vl_L_9 yv_X6_count ⟨Nat.le_of_ble_eq_true rfl, Nat.le_of_ble_eq_true rfl⟩ ⟨rfl, rfl⟩ ⟨Nat.le_of_ble_eq_true rfl, Nat.le_of_ble_eq_true rfl⟩ 0 0 rfl bO_0 rfl rfl rfl (Nat.le_of_ble_eq_true rfl) dL_acts_1165 ?_
                                  refine kw_iload X dL_acts_1168 6 rfl ?_
                                  refine kw_iconst X dL_acts_1170 ci_1 ?_
                                  refine kw_iadd X dL_acts_1171 ?_
                                  refine kw_icmp_ne X 1204 dL_acts_1172 (by decide) (fun q165 => ?_) (fun q165 => ?_)
                                  · replace hF := (if_neg q165).symm.trans hF
                                    refine kw_iconst X dL_acts_1204 ci_0 ?_
                                    obtain ⟨rfl, rfl⟩ := si2 hF
                                    refine kw_widen (n' := 2) (z' := 72) (by decide) (by decide) ?_
                                    refine kb_first ?_
                                    exact hret _ _ rfl dL_acts_1205
                                  · replace hF := (if_pos q165).symm.trans hF
                                    refine kw_aload_n X dL_acts_1175 rfl 0 rfl ?_
                                    refine kw_iconst X dL_acts_1176 ci_5 ?_
                                    obtain ⟨b166, hx166, hF⟩ := ob1_ex hF
                                    refine kb_ap X (r := .int b166) (As := [.int 5]) (st := []) (cm_count l D cI cC cR h0 h1 t0 t1 a b d ah w154 5 Z b166 hx166) vl_L_9 yv_X6_count ⟨Nat.le_of_ble_eq_true rfl, Nat.le_of_ble_eq_true rfl⟩ ⟨rfl, rfl⟩ ⟨Nat.le_of_ble_eq_true rfl, Nat.le_of_ble_eq_true rfl⟩ 0 0 rfl bO_0 rfl rfl rfl (Nat.le_of_ble_eq_true rfl) dL_acts_1177 ?_
                                    refine kw_iload X dL_acts_1180 7 rfl ?_
                                    refine kw_iconst X dL_acts_1182 ci_2 ?_
                                    refine kw_isub X dL_acts_1183 ?_
                                    refine kw_icmp_ne X 1204 dL_acts_1184 (by decide) (fun q167 => ?_) (fun q167 => ?_)
                                    · replace hF := (if_neg q167).symm.trans hF
                                      refine kw_iconst X dL_acts_1204 ci_0 ?_
                                      obtain ⟨rfl, rfl⟩ := si2 hF
                                      refine kw_widen (n' := 2) (z' := 72) (by decide) (by decide) ?_
                                      refine kb_first ?_
                                      exact hret _ _ rfl dL_acts_1205
                                    · replace hF := (if_pos q167).symm.trans hF
                                      refine kw_aload_n X dL_acts_1187 rfl 0 rfl ?_
                                      refine kw_bipush X dL_acts_1188 cb_8 ?_
                                      obtain ⟨b168, hx168, hF⟩ := ob1_ex hF
                                      refine kb_ap X (r := .int b168) (As := [.int 8]) (st := []) (cm_count l D cI cC cR h0 h1 t0 t1 a b d ah w154 8 Z b168 hx168) vl_L_9 yv_X6_count ⟨Nat.le_of_ble_eq_true rfl, Nat.le_of_ble_eq_true rfl⟩ ⟨rfl, rfl⟩ ⟨Nat.le_of_ble_eq_true rfl, Nat.le_of_ble_eq_true rfl⟩ 0 0 rfl bO_0 rfl rfl rfl (Nat.le_of_ble_eq_true rfl) dL_acts_1190 ?_
                                      refine kw_iload X dL_acts_1193 2 rfl ?_
                                      refine kw_iconst X dL_acts_1195 ci_3 ?_
                                      refine kw_isub X dL_acts_1196 ?_
                                      refine kw_icmp_ne X 1204 dL_acts_1197 (by decide) (fun q169 => ?_) (fun q169 => ?_)
                                      · replace hF := (if_neg q169).symm.trans hF
                                        refine kw_iconst X dL_acts_1204 ci_0 ?_
                                        obtain ⟨rfl, rfl⟩ := si2 hF
                                        refine kw_widen (n' := 2) (z' := 72) (by decide) (by decide) ?_
                                        refine kb_first ?_
                                        exact hret _ _ rfl dL_acts_1205
                                      · replace hF := (if_pos q169).symm.trans hF
                                        refine kw_iconst X dL_acts_1200 ci_1 ?_
                                        refine kw_goto X 1205 dL_acts_1201 (by decide) ?_
                                        obtain ⟨rfl, rfl⟩ := si2 hF
                                        refine kw_widen (n' := 2) (z' := 72) (by decide) (by decide) ?_
                                        refine kb_first ?_
                                        exact hret _ _ rfl dL_acts_1205
                          · replace hF := (if_pos q158).symm.trans hF
                            refine kw_iload X dL_acts_1120 3 rfl ?_
                            refine kw_aload_n X dL_acts_1122 rfl 0 rfl ?_
                            refine kw_iload X dL_acts_1123 1 rfl ?_
                            refine kw_iconst X dL_acts_1125 ci_0 ?_
                            obtain ⟨b170, hx170, hF⟩ := ob1_ex hF
                            refine kb_ap X (r := .int b170) (As := [.int (f_L_low p3 8), .int 0]) (st := [.int b3]) (cm_stand l D cI cC cR h0 h1 t0 t1 a b d ah w154 (f_L_low p3 8) 0 Z b170 hx170) vl_L_24 yv_X6_stand ⟨Nat.le_of_ble_eq_true rfl, Nat.le_of_ble_eq_true rfl⟩ ⟨rfl, rfl⟩ ⟨Nat.le_of_ble_eq_true rfl, Nat.le_of_ble_eq_true rfl⟩ 0 0 rfl bO_0 rfl rfl rfl (Nat.le_of_ble_eq_true rfl) dL_acts_1126 ?_
                            refine kw_icmp_lt X 1204 dL_acts_1129 (by decide) (fun q171 => ?_) (fun q171 => ?_)
                            · replace hF := (if_pos q171).symm.trans hF
                              refine kw_iconst X dL_acts_1204 ci_0 ?_
                              obtain ⟨rfl, rfl⟩ := si2 hF
                              refine kw_widen (n' := 2) (z' := 72) (by decide) (by decide) ?_
                              refine kb_first ?_
                              exact hret _ _ rfl dL_acts_1205
                            · replace hF := (if_neg q171).symm.trans hF
                              refine kw_goto X 1200 dL_acts_1132 (by decide) ?_
                              refine kw_iconst X dL_acts_1200 ci_1 ?_
                              refine kw_goto X 1205 dL_acts_1201 (by decide) ?_
                              obtain ⟨rfl, rfl⟩ := si2 hF
                              refine kw_widen (n' := 2) (z' := 72) (by decide) (by decide) ?_
                              refine kb_first ?_
                              exact hret _ _ rfl dL_acts_1205
                        · replace hF := (if_pos q157).symm.trans hF
                          refine kw_iload X dL_acts_1089 7 rfl ?_
                          refine kw_iconst X dL_acts_1091 ci_2 ?_
                          refine kw_icmp_lt X 1200 dL_acts_1092 (by decide) (fun q172 => ?_) (fun q172 => ?_)
                          · replace hF := (if_pos q172).symm.trans hF
                            refine kw_iconst X dL_acts_1200 ci_1 ?_
                            refine kw_goto X 1205 dL_acts_1201 (by decide) ?_
                            obtain ⟨rfl, rfl⟩ := si2 hF
                            refine kw_widen (n' := 2) (z' := 72) (by decide) (by decide) ?_
                            refine kb_first ?_
                            exact hret _ _ rfl dL_acts_1205
                          · replace hF := (if_neg q172).symm.trans hF
                            refine kw_iload X dL_acts_1095 2 rfl ?_
                            refine kw_bipush X dL_acts_1097 cb_10 ?_
                            refine kw_aload_n X dL_acts_1099 rfl 0 rfl ?_
                            refine kw_iconst X dL_acts_1100 ci_3 ?_
                            obtain ⟨b173, hx173, hF⟩ := ob1_ex hF
                            refine kb_ap X (r := .int b173) (As := [.int 3]) (st := [.int 10, .int b2]) (cm_count l D cI cC cR h0 h1 t0 t1 a b d ah w154 3 Z b173 hx173) vl_L_9 yv_X6_count ⟨Nat.le_of_ble_eq_true rfl, Nat.le_of_ble_eq_true rfl⟩ ⟨rfl, rfl⟩ ⟨Nat.le_of_ble_eq_true rfl, Nat.le_of_ble_eq_true rfl⟩ 0 0 rfl bO_0 rfl rfl rfl (Nat.le_of_ble_eq_true rfl) dL_acts_1101 ?_
                            refine kw_imul X dL_acts_1104 ?_
                            refine kw_isub X dL_acts_1105 ?_
                            refine kw_iconst X dL_acts_1106 ci_3 ?_
                            refine kw_icmp_ge X 1204 dL_acts_1107 (by decide) (fun q174 => ?_) (fun q174 => ?_)
                            · replace hF := (if_neg q174).symm.trans hF
                              refine kw_iconst X dL_acts_1204 ci_0 ?_
                              obtain ⟨rfl, rfl⟩ := si2 hF
                              refine kw_widen (n' := 2) (z' := 72) (by decide) (by decide) ?_
                              refine kb_first ?_
                              exact hret _ _ rfl dL_acts_1205
                            · replace hF := (if_pos q174).symm.trans hF
                              refine kw_goto X 1200 dL_acts_1110 (by decide) ?_
                              refine kw_iconst X dL_acts_1200 ci_1 ?_
                              refine kw_goto X 1205 dL_acts_1201 (by decide) ?_
                              obtain ⟨rfl, rfl⟩ := si2 hF
                              refine kw_widen (n' := 2) (z' := 72) (by decide) (by decide) ?_
                              refine kb_first ?_
                              exact hret _ _ rfl dL_acts_1205
                      · replace hF := (if_neg q156).symm.trans hF
                        refine kw_iload X dL_acts_1064 5 rfl ?_
                        refine kw_if_le X 1204 dL_acts_1066 (by decide) (fun q175 => ?_) (fun q175 => ?_)
                        · replace hF := (if_neg q175).symm.trans hF
                          refine kw_iconst X dL_acts_1204 ci_0 ?_
                          obtain ⟨rfl, rfl⟩ := si2 hF
                          refine kw_widen (n' := 2) (z' := 72) (by decide) (by decide) ?_
                          refine kb_first ?_
                          exact hret _ _ rfl dL_acts_1205
                        · replace hF := (if_pos q175).symm.trans hF
                          refine kw_aload_n X dL_acts_1069 rfl 0 rfl ?_
                          refine kw_iconst X dL_acts_1070 ci_4 ?_
                          obtain ⟨b176, hx176, hF⟩ := ob1_ex hF
                          refine kb_ap X (r := .int b176) (As := [.int 4]) (st := []) (cm_count l D cI cC cR h0 h1 t0 t1 a b d ah w154 4 Z b176 hx176) vl_L_9 yv_X6_count ⟨Nat.le_of_ble_eq_true rfl, Nat.le_of_ble_eq_true rfl⟩ ⟨rfl, rfl⟩ ⟨Nat.le_of_ble_eq_true rfl, Nat.le_of_ble_eq_true rfl⟩ 0 0 rfl bO_0 rfl rfl rfl (Nat.le_of_ble_eq_true rfl) dL_acts_1071 ?_
                          refine kw_iload X dL_acts_1074 4 rfl ?_
                          refine kw_iload X dL_acts_1076 5 rfl ?_
                          refine kw_isub X dL_acts_1078 ?_
                          refine kw_icmp_ne X 1204 dL_acts_1079 (by decide) (fun q177 => ?_) (fun q177 => ?_)
                          · replace hF := (if_neg q177).symm.trans hF
                            refine kw_iconst X dL_acts_1204 ci_0 ?_
                            obtain ⟨rfl, rfl⟩ := si2 hF
                            refine kw_widen (n' := 2) (z' := 72) (by decide) (by decide) ?_
                            refine kb_first ?_
                            exact hret _ _ rfl dL_acts_1205
                          · replace hF := (if_pos q177).symm.trans hF
                            refine kw_iload X dL_acts_1082 8 rfl ?_
                            refine kw_bipush X dL_acts_1084 cb_m2 ?_
                            refine kw_icmp_ne X 1113 dL_acts_1086 (by decide) (fun q178 => ?_) (fun q178 => ?_)
                            · replace hF := (if_neg q178).symm.trans hF
                              refine kw_iload X dL_acts_1113 8 rfl ?_
                              refine kw_bipush X dL_acts_1115 cb_m3 ?_
                              refine kw_icmp_ne X 1135 dL_acts_1117 (by decide) (fun q179 => ?_) (fun q179 => ?_)
                              · replace hF := (if_neg q179).symm.trans hF
                                refine kw_iload X dL_acts_1135 8 rfl ?_
                                refine kw_if_lt X 1204 dL_acts_1137 (by decide) (fun q180 => ?_) (fun q180 => ?_)
                                · replace hF := (if_pos q180).symm.trans hF
                                  refine kw_iconst X dL_acts_1204 ci_0 ?_
                                  obtain ⟨rfl, rfl⟩ := si2 hF
                                  refine kw_widen (n' := 2) (z' := 72) (by decide) (by decide) ?_
                                  refine kb_first ?_
                                  exact hret _ _ rfl dL_acts_1205
                                · replace hF := (if_neg q180).symm.trans hF
                                  refine kw_aload_n X dL_acts_1140 rfl 0 rfl ?_
                                  refine kw_iload X dL_acts_1141 8 rfl ?_
                                  refine kw_iconst X dL_acts_1143 ci_3 ?_
                                  obtain ⟨b181, hx181, hF⟩ := ob1_ex hF
                                  refine kb_ap X (r := .int b181) (As := [.int x153, .int 3]) (st := []) (cm_umbrella l D cI cC cR h0 h1 t0 t1 a b d ah w154 x153 3 b181 hx181) vl_L_15 yv_X6_umbrella ⟨Nat.le_of_ble_eq_true rfl, Nat.le_of_ble_eq_true rfl⟩ ⟨rfl, rfl⟩ ⟨Nat.le_of_ble_eq_true rfl, Nat.le_of_ble_eq_true rfl⟩ 0 0 rfl bO_0 rfl rfl rfl (Nat.le_of_ble_eq_true rfl) dL_acts_1144 ?_
                                  refine kw_if_ne X 1204 dL_acts_1147 (by decide) (fun q182 => ?_) (fun q182 => ?_)
                                  · replace hF := (if_neg q182).symm.trans hF
                                    refine kw_iconst X dL_acts_1204 ci_0 ?_
                                    obtain ⟨rfl, rfl⟩ := si2 hF
                                    refine kw_widen (n' := 2) (z' := 72) (by decide) (by decide) ?_
                                    refine kb_first ?_
                                    exact hret _ _ rfl dL_acts_1205
                                  · replace hF := (if_pos q182).symm.trans hF
                                    refine kw_aload_n X dL_acts_1150 rfl 0 rfl ?_
                                    refine kw_iload X dL_acts_1151 8 rfl ?_
                                    refine kw_iconst X dL_acts_1153 ci_1 ?_
                                    obtain ⟨b183, hx183, hF⟩ := ob1_ex hF
                                    refine kb_ap X (r := .int b183) (As := [.int x153, .int 1]) (st := []) (cm_umbrella l D cI cC cR h0 h1 t0 t1 a b d ah w154 x153 1 b183 hx183) vl_L_15 yv_X6_umbrella ⟨Nat.le_of_ble_eq_true rfl, Nat.le_of_ble_eq_true rfl⟩ ⟨rfl, rfl⟩ ⟨Nat.le_of_ble_eq_true rfl, Nat.le_of_ble_eq_true rfl⟩ 0 0 rfl bO_0 rfl rfl rfl (Nat.le_of_ble_eq_true rfl) dL_acts_1154 ?_
                                    refine kw_iload X dL_acts_1157 1 rfl ?_
                                    refine kw_icmp_ne X 1204 dL_acts_1159 (by decide) (fun q184 => ?_) (fun q184 => ?_)
                                    · replace hF := (if_neg q184).symm.trans hF
                                      refine kw_iconst X dL_acts_1204 ci_0 ?_
                                      obtain ⟨rfl, rfl⟩ := si2 hF
                                      refine kw_widen (n' := 2) (z' := 72) (by decide) (by decide) ?_
                                      refine kb_first ?_
                                      exact hret _ _ rfl dL_acts_1205
                                    · replace hF := (if_pos q184).symm.trans hF
                                      refine kw_aload_n X dL_acts_1162 rfl 0 rfl ?_
                                      refine kw_bipush X dL_acts_1163 cb_6 ?_
                                      obtain ⟨b185, hx185, hF⟩ := ob1_ex hF
                                      refine kb_ap X (r := .int b185) (As := [.int 6]) (st := []) (cm_count l D cI cC cR h0 h1 t0 t1 a b d ah w154 6 Z b185 hx185) vl_L_9 yv_X6_count ⟨Nat.le_of_ble_eq_true rfl, Nat.le_of_ble_eq_true rfl⟩ ⟨rfl, rfl⟩ ⟨Nat.le_of_ble_eq_true rfl, Nat.le_of_ble_eq_true rfl⟩ 0 0 rfl bO_0 rfl rfl rfl (Nat.le_of_ble_eq_true rfl) dL_acts_1165 ?_
                                      refine kw_iload X dL_acts_1168 6 rfl ?_
                                      refine kw_iconst X dL_acts_1170 ci_1 ?_
                                      refine kw_iadd X dL_acts_1171 ?_
                                      refine kw_icmp_ne X 1204 dL_acts_1172 (by decide) (fun q186 => ?_) (fun q186 => ?_)
                                      · replace hF := (if_neg q186).symm.trans hF
                                        refine kw_iconst X dL_acts_1204 ci_0 ?_
                                        obtain ⟨rfl, rfl⟩ := si2 hF
                                        refine kw_widen (n' := 2) (z' := 72) (by decide) (by decide) ?_
                                        refine kb_first ?_
                                        exact hret _ _ rfl dL_acts_1205
                                      · replace hF := (if_pos q186).symm.trans hF
                                        refine kw_aload_n X dL_acts_1175 rfl 0 rfl ?_
                                        refine kw_iconst X dL_acts_1176 ci_5 ?_
                                        obtain ⟨b187, hx187, hF⟩ := ob1_ex hF
                                        refine kb_ap X (r := .int b187) (As := [.int 5]) (st := []) (cm_count l D cI cC cR h0 h1 t0 t1 a b d ah w154 5 Z b187 hx187) vl_L_9 yv_X6_count ⟨Nat.le_of_ble_eq_true rfl, Nat.le_of_ble_eq_true rfl⟩ ⟨rfl, rfl⟩ ⟨Nat.le_of_ble_eq_true rfl, Nat.le_of_ble_eq_true rfl⟩ 0 0 rfl bO_0 rfl rfl rfl (Nat.le_of_ble_eq_true rfl) dL_acts_1177 ?_
                                        refine kw_iload X dL_acts_1180 7 rfl ?_
                                        refine kw_iconst X dL_acts_1182 ci_2 ?_
                                        refine kw_isub X dL_acts_1183 ?_
                                        refine kw_icmp_ne X 1204 dL_acts_1184 (by decide) (fun q188 => ?_) (fun q188 => ?_)
                                        · replace hF := (if_neg q188).symm.trans hF
                                          refine kw_iconst X dL_acts_1204 ci_0 ?_
                                          obtain ⟨rfl, rfl⟩ := si2 hF
                                          refine kw_widen (n' := 2) (z' := 72) (by decide) (by decide) ?_
                                          refine kb_first ?_
                                          exact hret _ _ rfl dL_acts_1205
                                        · replace hF := (if_pos q188).symm.trans hF
                                          refine kw_aload_n X dL_acts_1187 rfl 0 rfl ?_
                                          refine kw_bipush X dL_acts_1188 cb_8 ?_
                                          obtain ⟨b189, hx189, hF⟩ := ob1_ex hF
                                          refine kb_ap X (r := .int b189) (As := [.int 8]) (st := []) (cm_count l D cI cC cR h0 h1 t0 t1 a b d ah w154 8 Z b189 hx189) vl_L_9 yv_X6_count ⟨Nat.le_of_ble_eq_true rfl, Nat.le_of_ble_eq_true rfl⟩ ⟨rfl, rfl⟩ ⟨Nat.le_of_ble_eq_true rfl, Nat.le_of_ble_eq_true rfl⟩ 0 0 rfl bO_0 rfl rfl rfl (Nat.le_of_ble_eq_true rfl) dL_acts_1190 ?_
                                          refine kw_iload X dL_acts_1193 2 rfl ?_
                                          refine kw_iconst X dL_acts_1195 ci_3 ?_
                                          refine kw_isub X dL_acts_1196 ?_
                                          refine kw_icmp_ne X 1204 dL_acts_1197 (by decide) (fun q190 => ?_) (fun q190 => ?_)
                                          · replace hF := (if_neg q190).symm.trans hF
                                            refine kw_iconst X dL_acts_1204 ci_0 ?_
                                            obtain ⟨rfl, rfl⟩ := si2 hF
                                            refine kw_widen (n' := 2) (z' := 72) (by decide) (by decide) ?_
                                            refine kb_first ?_
                                            exact hret _ _ rfl dL_acts_1205
                                          · replace hF := (if_pos q190).symm.trans hF
                                            refine kw_iconst X dL_acts_1200 ci_1 ?_
                                            refine kw_goto X 1205 dL_acts_1201 (by decide) ?_
                                            obtain ⟨rfl, rfl⟩ := si2 hF
                                            refine kw_widen (n' := 2) (z' := 72) (by decide) (by decide) ?_
                                            refine kb_first ?_
                                            exact hret _ _ rfl dL_acts_1205
                              · replace hF := (if_pos q179).symm.trans hF
                                refine kw_iload X dL_acts_1120 3 rfl ?_
                                refine kw_aload_n X dL_acts_1122 rfl 0 rfl ?_
                                refine kw_iload X dL_acts_1123 1 rfl ?_
                                refine kw_iconst X dL_acts_1125 ci_0 ?_
                                obtain ⟨b191, hx191, hF⟩ := ob1_ex hF
                                refine kb_ap X (r := .int b191) (As := [.int (f_L_low p3 8), .int 0]) (st := [.int b3]) (cm_stand l D cI cC cR h0 h1 t0 t1 a b d ah w154 (f_L_low p3 8) 0 Z b191 hx191) vl_L_24 yv_X6_stand ⟨Nat.le_of_ble_eq_true rfl, Nat.le_of_ble_eq_true rfl⟩ ⟨rfl, rfl⟩ ⟨Nat.le_of_ble_eq_true rfl, Nat.le_of_ble_eq_true rfl⟩ 0 0 rfl bO_0 rfl rfl rfl (Nat.le_of_ble_eq_true rfl) dL_acts_1126 ?_
                                refine kw_icmp_lt X 1204 dL_acts_1129 (by decide) (fun q192 => ?_) (fun q192 => ?_)
                                · replace hF := (if_pos q192).symm.trans hF
                                  refine kw_iconst X dL_acts_1204 ci_0 ?_
                                  obtain ⟨rfl, rfl⟩ := si2 hF
                                  refine kw_widen (n' := 2) (z' := 72) (by decide) (by decide) ?_
                                  refine kb_first ?_
                                  exact hret _ _ rfl dL_acts_1205
                                · replace hF := (if_neg q192).symm.trans hF
                                  refine kw_goto X 1200 dL_acts_1132 (by decide) ?_
                                  refine kw_iconst X dL_acts_1200 ci_1 ?_
                                  refine kw_goto X 1205 dL_acts_1201 (by decide) ?_
                                  obtain ⟨rfl, rfl⟩ := si2 hF
                                  refine kw_widen (n' := 2) (z' := 72) (by decide) (by decide) ?_
                                  refine kb_first ?_
                                  exact hret _ _ rfl dL_acts_1205
                            · replace hF := (if_pos q178).symm.trans hF
                              refine kw_iload X dL_acts_1089 7 rfl ?_
                              refine kw_iconst X dL_acts_1091 ci_2 ?_
                              refine kw_icmp_lt X 1200 dL_acts_1092 (by decide) (fun q193 => ?_) (fun q193 => ?_)
                              · replace hF := (if_pos q193).symm.trans hF
                                refine kw_iconst X dL_acts_1200 ci_1 ?_
                                refine kw_goto X 1205 dL_acts_1201 (by decide) ?_
                                obtain ⟨rfl, rfl⟩ := si2 hF
                                refine kw_widen (n' := 2) (z' := 72) (by decide) (by decide) ?_
                                refine kb_first ?_
                                exact hret _ _ rfl dL_acts_1205
                              · replace hF := (if_neg q193).symm.trans hF
                                refine kw_iload X dL_acts_1095 2 rfl ?_
                                refine kw_bipush X dL_acts_1097 cb_10 ?_
                                refine kw_aload_n X dL_acts_1099 rfl 0 rfl ?_
                                refine kw_iconst X dL_acts_1100 ci_3 ?_
                                obtain ⟨b194, hx194, hF⟩ := ob1_ex hF
                                refine kb_ap X (r := .int b194) (As := [.int 3]) (st := [.int 10, .int b2]) (cm_count l D cI cC cR h0 h1 t0 t1 a b d ah w154 3 Z b194 hx194) vl_L_9 yv_X6_count ⟨Nat.le_of_ble_eq_true rfl, Nat.le_of_ble_eq_true rfl⟩ ⟨rfl, rfl⟩ ⟨Nat.le_of_ble_eq_true rfl, Nat.le_of_ble_eq_true rfl⟩ 0 0 rfl bO_0 rfl rfl rfl (Nat.le_of_ble_eq_true rfl) dL_acts_1101 ?_
                                refine kw_imul X dL_acts_1104 ?_
                                refine kw_isub X dL_acts_1105 ?_
                                refine kw_iconst X dL_acts_1106 ci_3 ?_
                                refine kw_icmp_ge X 1204 dL_acts_1107 (by decide) (fun q195 => ?_) (fun q195 => ?_)
                                · replace hF := (if_neg q195).symm.trans hF
                                  refine kw_iconst X dL_acts_1204 ci_0 ?_
                                  obtain ⟨rfl, rfl⟩ := si2 hF
                                  refine kw_widen (n' := 2) (z' := 72) (by decide) (by decide) ?_
                                  refine kb_first ?_
                                  exact hret _ _ rfl dL_acts_1205
                                · replace hF := (if_pos q195).symm.trans hF
                                  refine kw_goto X 1200 dL_acts_1110 (by decide) ?_
                                  refine kw_iconst X dL_acts_1200 ci_1 ?_
                                  refine kw_goto X 1205 dL_acts_1201 (by decide) ?_
                                  obtain ⟨rfl, rfl⟩ := si2 hF
                                  refine kw_widen (n' := 2) (z' := 72) (by decide) (by decide) ?_
                                  refine kb_first ?_
                                  exact hret _ _ rfl dL_acts_1205
                    replace hF := hx155
                    refine kw_icmp_ne X 1054 dL_acts_1042 (by decide) (fun q150 => ?_) (fun q150 => ?_)
                    · replace hF := (if_neg q150).symm.trans hF
                      refine kw_iconst X dL_acts_1054 ci_m1 ?_
                      obtain ⟨rfl, rfl⟩ := si2 hF
                      exact J
                    · replace hF := (if_pos q150).symm.trans hF
                      refine kw_aload_n X dL_acts_1045 rfl 0 rfl ?_
                      refine kw_iload X dL_acts_1046 1 rfl ?_
                      obtain ⟨b196, w197, hx197, hF⟩ := ob2_ex hF
                      refine kb_aei X (r := .int b196) (As := [.int (f_L_low p3 8)]) (st := []) (bs' := [bO cI cC cR h0 h1 t0 t1 a b d ah w197]) E (cm_mend l D cI cC cR h0 h1 t0 t1 a b d ah w144 (f_L_low p3 8) Z b196 w197 hx197) vl_L_74 yv_X6_mend ⟨Nat.le_of_ble_eq_true rfl, Nat.le_of_ble_eq_true rfl⟩ ⟨rfl, rfl⟩ ⟨Nat.le_of_ble_eq_true rfl, Nat.le_of_ble_eq_true rfl⟩ 0 0 rfl bO_0 rfl rfl rfl (Nat.le_of_ble_eq_true rfl) dL_acts_1048 ((bO cI cC cR h0 h1 t0 t1 a b d ah w144).map (·.1)) bO_same rfl rfl ?_
                      refine kw_goto X 1055 dL_acts_1051 (by decide) ?_
                      obtain ⟨rfl, rfl⟩ := si2 hF
                      exact J
                  replace hF := hx148
                  refine kw_if_le X 1031 dL_acts_1023 (by decide) (fun q146 => ?_) (fun q146 => ?_)
                  · replace hF := (if_neg q146).symm.trans hF
                    refine kw_iconst X dL_acts_1031 ci_0 ?_
                    refine kw_loc (lo' := [(0, .ref h0), (4, .int (f_L_low p3 8)), (7, .int b2), (8, .int b3), (11, .int b9), (13, .int b143), (14, .int b145)]) [0, 4, 7, 8, 11, 13, 14] rfl ?_
                    obtain rfl := ti1 hF
                    exact J
                  · replace hF := (if_pos q146).symm.trans hF
                    refine kw_iload X dL_acts_1026 13 rfl ?_
                    refine kw_goto X 1032 dL_acts_1028 (by decide) ?_
                    refine kw_loc (lo' := [(0, .ref h0), (4, .int (f_L_low p3 8)), (7, .int b2), (8, .int b3), (11, .int b9), (13, .int b143), (14, .int b145)]) [0, 4, 7, 8, 11, 13, 14] rfl ?_
                    obtain rfl := ti1 hF
                    exact J
              · replace hF := (if_pos q11).symm.trans hF
                refine kw_aload_n X dL_acts_881 rfl 0 rfl ?_
                refine kw_iload X dL_acts_882 9 rfl ?_
                refine kw_iload X dL_acts_884 4 rfl ?_
                refine kw_iload X dL_acts_886 10 rfl ?_
                obtain ⟨b198, w199, hx199, hF⟩ := ob2_ex hF
                refine kb_aei X (r := .int b198) (As := [.int (f_L_low (p3 >>> ((3 : Int32) &&& 31)) 2), .int (f_L_low p3 8), .int (1 + (f_L_low (p3 >>> ((5 : Int32) &&& 31)) 6))]) (st := []) (bs' := [bO cI cC cR h0 h1 t0 t1 a b d ah w199]) E (cm_unload l D cI cC cR h0 h1 t0 t1 a b d ah v (f_L_low (p3 >>> ((3 : Int32) &&& 31)) 2) (f_L_low p3 8) (1 + (f_L_low (p3 >>> ((5 : Int32) &&& 31)) 6)) Z b198 w199 hx199) vl_L_65 yv_X6_unload ⟨Nat.le_of_ble_eq_true rfl, Nat.le_of_ble_eq_true rfl⟩ ⟨rfl, rfl⟩ ⟨Nat.le_of_ble_eq_true rfl, Nat.le_of_ble_eq_true rfl⟩ 0 0 rfl bO_0 rfl rfl rfl (Nat.le_of_ble_eq_true rfl) dL_acts_888 ((bO cI cC cR h0 h1 t0 t1 a b d ah v).map (·.1)) bO_same rfl rfl ?_
                refine kw_istore (lo' := [(0, .ref h0), (1, .int p2), (2, .int p3), (3, .int (f_L_low p2 16)), (4, .int (f_L_low p3 8)), (5, .int (f_L_low (p3 >>> ((3 : Int32) &&& 31)) 12)), (6, .int b1), (7, .int b2), (8, .int b3), (9, .int (f_L_low (p3 >>> ((3 : Int32) &&& 31)) 2)), (10, .int (1 + (f_L_low (p3 >>> ((5 : Int32) &&& 31)) 6))), (11, .int b9), (12, .int b198)]) X dL_acts_891 (by decide) [1, 2, 3, 4, 5, 6, 7, 8, 9, 10, 11, 12, 0] rfl ?_
                refine kw_iload X dL_acts_893 12 rfl ?_
                refine kw_bipush X dL_acts_895 cb_m2 ?_
                refine kw_icmp_eq X 984 dL_acts_897 (by decide) (fun q200 => ?_) (fun q200 => ?_)
                · replace hF := (if_pos q200).symm.trans hF
                  refine kw_iconst X dL_acts_984 ci_1 ?_
                  refine kw_goto X 989 dL_acts_985 (by decide) ?_
                  obtain ⟨rfl, rfl⟩ := si2 hF
                  refine kw_widen (n' := 2) (z' := 72) (by decide) (by decide) ?_
                  refine kb_first ?_
                  exact hret _ _ rfl dL_acts_989
                · replace hF := (if_neg q200).symm.trans hF
                  refine kw_iload X dL_acts_900 12 rfl ?_
                  refine kw_bipush X dL_acts_902 cb_m3 ?_
                  refine kw_icmp_ne X 925 dL_acts_904 (by decide) (fun q201 => ?_) (fun q201 => ?_)
                  · replace hF := (if_neg q201).symm.trans hF
                    refine kw_aload_n X dL_acts_925 rfl 0 rfl ?_
                    refine kw_iconst X dL_acts_926 ci_4 ?_
                    obtain ⟨b202, hx202, hF⟩ := ob1_ex hF
                    refine kb_ap X (r := .int b202) (As := [.int 4]) (st := []) (cm_count l D cI cC cR h0 h1 t0 t1 a b d ah w199 4 Z b202 hx202) vl_L_9 yv_X6_count ⟨Nat.le_of_ble_eq_true rfl, Nat.le_of_ble_eq_true rfl⟩ ⟨rfl, rfl⟩ ⟨Nat.le_of_ble_eq_true rfl, Nat.le_of_ble_eq_true rfl⟩ 0 0 rfl bO_0 rfl rfl rfl (Nat.le_of_ble_eq_true rfl) dL_acts_927 ?_
                    refine kw_iload X dL_acts_930 11 rfl ?_
                    refine kw_iload X dL_acts_932 10 rfl ?_
                    refine kw_isub X dL_acts_934 ?_
                    refine kw_icmp_ne X 988 dL_acts_935 (by decide) (fun q203 => ?_) (fun q203 => ?_)
                    · replace hF := (if_neg q203).symm.trans hF
                      refine kw_iconst X dL_acts_988 ci_0 ?_
                      obtain ⟨rfl, rfl⟩ := si2 hF
                      refine kw_widen (n' := 2) (z' := 72) (by decide) (by decide) ?_
                      refine kb_first ?_
                      exact hret _ _ rfl dL_acts_989
                    · replace hF := (if_pos q203).symm.trans hF
                      refine kw_aload_n X dL_acts_938 rfl 0 rfl ?_
                      refine kw_iload X dL_acts_939 4 rfl ?_
                      refine kw_iconst X dL_acts_941 ci_1 ?_
                      obtain ⟨b204, hx204, hF⟩ := ob1_ex hF
                      refine kb_ap X (r := .int b204) (As := [.int (f_L_low p3 8), .int 1]) (st := []) (cm_stand l D cI cC cR h0 h1 t0 t1 a b d ah w199 (f_L_low p3 8) 1 Z b204 hx204) vl_L_24 yv_X6_stand ⟨Nat.le_of_ble_eq_true rfl, Nat.le_of_ble_eq_true rfl⟩ ⟨rfl, rfl⟩ ⟨Nat.le_of_ble_eq_true rfl, Nat.le_of_ble_eq_true rfl⟩ 0 0 rfl bO_0 rfl rfl rfl (Nat.le_of_ble_eq_true rfl) dL_acts_942 ?_
                      refine kw_iload X dL_acts_945 8 rfl ?_
                      refine kw_iload X dL_acts_947 10 rfl ?_
                      refine kw_iadd X dL_acts_949 ?_
                      refine kw_icmp_ne X 988 dL_acts_950 (by decide) (fun q205 => ?_) (fun q205 => ?_)
                      · replace hF := (if_neg q205).symm.trans hF
                        refine kw_iconst X dL_acts_988 ci_0 ?_
                        obtain ⟨rfl, rfl⟩ := si2 hF
                        refine kw_widen (n' := 2) (z' := 72) (by decide) (by decide) ?_
                        refine kb_first ?_
                        exact hret _ _ rfl dL_acts_989
                      · replace hF := (if_pos q205).symm.trans hF
                        refine kw_aload_n X dL_acts_953 rfl 0 rfl ?_
                        refine kw_iload X dL_acts_954 9 rfl ?_
                        refine kw_iload X dL_acts_956 12 rfl ?_
                        obtain ⟨b206, hx206, hF⟩ := ob1_ex hF
                        refine kb_ap X (r := .int b206) (As := [.int (f_L_low (p3 >>> ((3 : Int32) &&& 31)) 2), .int b198]) (st := []) (cm_inVan l D cI cC cR h0 h1 t0 t1 a b d ah w199 (f_L_low (p3 >>> ((3 : Int32) &&& 31)) 2) b198 Z b206 hx206) vl_L_68 yv_X6_inVan ⟨Nat.le_of_ble_eq_true rfl, Nat.le_of_ble_eq_true rfl⟩ ⟨rfl, rfl⟩ ⟨Nat.le_of_ble_eq_true rfl, Nat.le_of_ble_eq_true rfl⟩ 0 0 rfl bO_0 rfl rfl rfl (Nat.le_of_ble_eq_true rfl) dL_acts_958 ?_
                        refine kw_bipush X dL_acts_961 cb_m9 ?_
                        refine kw_icmp_ne X 988 dL_acts_963 (by decide) (fun q207 => ?_) (fun q207 => ?_)
                        · replace hF := (if_neg q207).symm.trans hF
                          refine kw_iconst X dL_acts_988 ci_0 ?_
                          obtain ⟨rfl, rfl⟩ := si2 hF
                          refine kw_widen (n' := 2) (z' := 72) (by decide) (by decide) ?_
                          refine kb_first ?_
                          exact hret _ _ rfl dL_acts_989
                        · replace hF := (if_pos q207).symm.trans hF
                          refine kw_iload X dL_acts_966 12 rfl ?_
                          refine kw_if_eq X 984 dL_acts_968 (by decide) (fun q208 => ?_) (fun q208 => ?_)
                          · replace hF := (if_pos q208).symm.trans hF
                            refine kw_iconst X dL_acts_984 ci_1 ?_
                            refine kw_goto X 989 dL_acts_985 (by decide) ?_
                            obtain ⟨rfl, rfl⟩ := si2 hF
                            refine kw_widen (n' := 2) (z' := 72) (by decide) (by decide) ?_
                            refine kb_first ?_
                            exact hret _ _ rfl dL_acts_989
                          · replace hF := (if_neg q208).symm.trans hF
                            refine kw_aload_n X dL_acts_971 rfl 0 rfl ?_
                            refine kw_iload X dL_acts_972 9 rfl ?_
                            refine kw_iload X dL_acts_974 12 rfl ?_
                            refine kw_iconst X dL_acts_976 ci_1 ?_
                            refine kw_isub X dL_acts_977 ?_
                            obtain ⟨b209, hx209, hF⟩ := ob1_ex hF
                            refine kb_ap X (r := .int b209) (As := [.int (f_L_low (p3 >>> ((3 : Int32) &&& 31)) 2), .int (b198 - 1)]) (st := []) (cm_inVan l D cI cC cR h0 h1 t0 t1 a b d ah w199 (f_L_low (p3 >>> ((3 : Int32) &&& 31)) 2) (b198 - 1) Z b209 hx209) vl_L_68 yv_X6_inVan ⟨Nat.le_of_ble_eq_true rfl, Nat.le_of_ble_eq_true rfl⟩ ⟨rfl, rfl⟩ ⟨Nat.le_of_ble_eq_true rfl, Nat.le_of_ble_eq_true rfl⟩ 0 0 rfl bO_0 rfl rfl rfl (Nat.le_of_ble_eq_true rfl) dL_acts_978 ?_
                            refine kw_if_lt X 988 dL_acts_981 (by decide) (fun q210 => ?_) (fun q210 => ?_)
                            · replace hF := (if_pos q210).symm.trans hF
                              refine kw_iconst X dL_acts_988 ci_0 ?_
                              obtain ⟨rfl, rfl⟩ := si2 hF
                              refine kw_widen (n' := 2) (z' := 72) (by decide) (by decide) ?_
                              refine kb_first ?_
                              exact hret _ _ rfl dL_acts_989
                            · replace hF := (if_neg q210).symm.trans hF
                              refine kw_iconst X dL_acts_984 ci_1 ?_
                              refine kw_goto X 989 dL_acts_985 (by decide) ?_
                              obtain ⟨rfl, rfl⟩ := si2 hF
                              refine kw_widen (n' := 2) (z' := 72) (by decide) (by decide) ?_
                              refine kb_first ?_
                              exact hret _ _ rfl dL_acts_989
                  · replace hF := (if_pos q201).symm.trans hF
                    refine kw_iload X dL_acts_907 8 rfl ?_
                    refine kw_iload X dL_acts_909 10 rfl ?_
                    refine kw_iadd X dL_acts_911 ?_
                    refine kw_aload_n X dL_acts_912 rfl 0 rfl ?_
                    refine kw_iload X dL_acts_913 4 rfl ?_
                    refine kw_iconst X dL_acts_915 ci_0 ?_
                    obtain ⟨b211, hx211, hF⟩ := ob1_ex hF
                    refine kb_ap X (r := .int b211) (As := [.int (f_L_low p3 8), .int 0]) (st := [.int (b3 + (1 + (f_L_low (p3 >>> ((5 : Int32) &&& 31)) 6)))]) (cm_stand l D cI cC cR h0 h1 t0 t1 a b d ah w199 (f_L_low p3 8) 0 Z b211 hx211) vl_L_24 yv_X6_stand ⟨Nat.le_of_ble_eq_true rfl, Nat.le_of_ble_eq_true rfl⟩ ⟨rfl, rfl⟩ ⟨Nat.le_of_ble_eq_true rfl, Nat.le_of_ble_eq_true rfl⟩ 0 0 rfl bO_0 rfl rfl rfl (Nat.le_of_ble_eq_true rfl) dL_acts_916 ?_
                    refine kw_icmp_le X 988 dL_acts_919 (by decide) (fun q212 => ?_) (fun q212 => ?_)
                    · replace hF := (if_neg q212).symm.trans hF
                      refine kw_iconst X dL_acts_988 ci_0 ?_
                      obtain ⟨rfl, rfl⟩ := si2 hF
                      refine kw_widen (n' := 2) (z' := 72) (by decide) (by decide) ?_
                      refine kb_first ?_
                      exact hret _ _ rfl dL_acts_989
                    · replace hF := (if_pos q212).symm.trans hF
                      refine kw_goto X 984 dL_acts_922 (by decide) ?_
                      refine kw_iconst X dL_acts_984 ci_1 ?_
                      refine kw_goto X 989 dL_acts_985 (by decide) ?_
                      obtain ⟨rfl, rfl⟩ := si2 hF
                      refine kw_widen (n' := 2) (z' := 72) (by decide) (by decide) ?_
                      refine kb_first ?_
                      exact hret _ _ rfl dL_acts_989
            · replace hF := (if_pos q10).symm.trans hF
              refine kw_aload_n X dL_acts_761 rfl 0 rfl ?_
              refine kw_iload X dL_acts_762 4 rfl ?_
              refine kw_iconst X dL_acts_764 ci_4 ?_
              obtain ⟨b213, hx213, hF⟩ := ob1_ex hF
              refine kb_ap X (r := .int b213) (As := [.int (f_L_low p3 8), .int 4]) (st := []) (cm_stand l D cI cC cR h0 h1 t0 t1 a b d ah v (f_L_low p3 8) 4 Z b213 hx213) vl_L_24 yv_X6_stand ⟨Nat.le_of_ble_eq_true rfl, Nat.le_of_ble_eq_true rfl⟩ ⟨rfl, rfl⟩ ⟨Nat.le_of_ble_eq_true rfl, Nat.le_of_ble_eq_true rfl⟩ 0 0 rfl bO_0 rfl rfl rfl (Nat.le_of_ble_eq_true rfl) dL_acts_765 ?_
              refine kw_istore (lo' := [(0, .ref h0), (1, .int p2), (2, .int p3), (3, .int (f_L_low p2 16)), (4, .int (f_L_low p3 8)), (5, .int (f_L_low (p3 >>> ((3 : Int32) &&& 31)) 12)), (6, .int b1), (7, .int b2), (8, .int b3), (9, .int (f_L_low (p3 >>> ((3 : Int32) &&& 31)) 2)), (10, .int (1 + (f_L_low (p3 >>> ((5 : Int32) &&& 31)) 6))), (11, .int b9), (12, .int b213)]) X dL_acts_768 (by decide) [1, 2, 3, 4, 5, 6, 7, 8, 9, 10, 11, 12, 0] rfl ?_
              refine kw_aload_n X dL_acts_770 rfl 0 rfl ?_
              refine kw_iload X dL_acts_771 9 rfl ?_
              refine kw_iload X dL_acts_773 4 rfl ?_
              refine kw_iload X dL_acts_775 10 rfl ?_
              obtain ⟨b214, w215, hx215, hF⟩ := ob2_ex hF
              refine kb_aei X (r := .int b214) (As := [.int (f_L_low (p3 >>> ((3 : Int32) &&& 31)) 2), .int (f_L_low p3 8), .int (1 + (f_L_low (p3 >>> ((5 : Int32) &&& 31)) 6))]) (st := []) (bs' := [bO cI cC cR h0 h1 t0 t1 a b d ah w215]) E (cm_load l D cI cC cR h0 h1 t0 t1 a b d ah v (f_L_low (p3 >>> ((3 : Int32) &&& 31)) 2) (f_L_low p3 8) (1 + (f_L_low (p3 >>> ((5 : Int32) &&& 31)) 6)) Z b214 w215 hx215) vl_L_62 yv_X6_load ⟨Nat.le_of_ble_eq_true rfl, Nat.le_of_ble_eq_true rfl⟩ ⟨rfl, rfl⟩ ⟨Nat.le_of_ble_eq_true rfl, Nat.le_of_ble_eq_true rfl⟩ 0 0 rfl bO_0 rfl rfl rfl (Nat.le_of_ble_eq_true rfl) dL_acts_777 ((bO cI cC cR h0 h1 t0 t1 a b d ah v).map (·.1)) bO_same rfl rfl ?_
              refine kw_istore (lo' := [(0, .ref h0), (1, .int p2), (2, .int p3), (3, .int (f_L_low p2 16)), (4, .int (f_L_low p3 8)), (5, .int (f_L_low (p3 >>> ((3 : Int32) &&& 31)) 12)), (6, .int b1), (7, .int b2), (8, .int b3), (9, .int (f_L_low (p3 >>> ((3 : Int32) &&& 31)) 2)), (10, .int (1 + (f_L_low (p3 >>> ((5 : Int32) &&& 31)) 6))), (11, .int b9), (12, .int b213), (13, .int b214)]) X dL_acts_780 (by decide) [1, 2, 3, 4, 5, 6, 7, 8, 9, 10, 11, 12, 13, 0] rfl ?_
              refine kw_iload X dL_acts_782 13 rfl ?_
              refine kw_bipush X dL_acts_784 cb_m2 ?_
              refine kw_icmp_ne X 804 dL_acts_786 (by decide) (fun q216 => ?_) (fun q216 => ?_)
              · replace hF := (if_neg q216).symm.trans hF
                refine kw_iload X dL_acts_804 13 rfl ?_
                refine kw_bipush X dL_acts_806 cb_m3 ?_
                refine kw_icmp_eq X 869 dL_acts_808 (by decide) (fun q217 => ?_) (fun q217 => ?_)
                · replace hF := (if_pos q217).symm.trans hF
                  refine kw_iconst X dL_acts_869 ci_1 ?_
                  refine kw_goto X 874 dL_acts_870 (by decide) ?_
                  obtain ⟨rfl, rfl⟩ := si2 hF
                  refine kw_widen (n' := 2) (z' := 72) (by decide) (by decide) ?_
                  refine kb_first ?_
                  exact hret _ _ rfl dL_acts_874
                · replace hF := (if_neg q217).symm.trans hF
                  refine kw_iload X dL_acts_811 13 rfl ?_
                  refine kw_iload X dL_acts_813 10 rfl ?_
                  refine kw_icmp_gt X 873 dL_acts_815 (by decide) (fun q218 => ?_) (fun q218 => ?_)
                  · replace hF := (if_pos q218).symm.trans hF
                    refine kw_iconst X dL_acts_873 ci_0 ?_
                    obtain ⟨rfl, rfl⟩ := si2 hF
                    refine kw_widen (n' := 2) (z' := 72) (by decide) (by decide) ?_
                    refine kb_first ?_
                    exact hret _ _ rfl dL_acts_874
                  · replace hF := (if_neg q218).symm.trans hF
                    refine kw_aload_n X dL_acts_818 rfl 0 rfl ?_
                    refine kw_iconst X dL_acts_819 ci_4 ?_
                    obtain ⟨b219, hx219, hF⟩ := ob1_ex hF
                    refine kb_ap X (r := .int b219) (As := [.int 4]) (st := []) (cm_count l D cI cC cR h0 h1 t0 t1 a b d ah w215 4 Z b219 hx219) vl_L_9 yv_X6_count ⟨Nat.le_of_ble_eq_true rfl, Nat.le_of_ble_eq_true rfl⟩ ⟨rfl, rfl⟩ ⟨Nat.le_of_ble_eq_true rfl, Nat.le_of_ble_eq_true rfl⟩ 0 0 rfl bO_0 rfl rfl rfl (Nat.le_of_ble_eq_true rfl) dL_acts_820 ?_
                    refine kw_iload X dL_acts_823 11 rfl ?_
                    refine kw_iload X dL_acts_825 10 rfl ?_
                    refine kw_iadd X dL_acts_827 ?_
                    refine kw_icmp_ne X 873 dL_acts_828 (by decide) (fun q220 => ?_) (fun q220 => ?_)
                    · replace hF := (if_neg q220).symm.trans hF
                      refine kw_iconst X dL_acts_873 ci_0 ?_
                      obtain ⟨rfl, rfl⟩ := si2 hF
                      refine kw_widen (n' := 2) (z' := 72) (by decide) (by decide) ?_
                      refine kb_first ?_
                      exact hret _ _ rfl dL_acts_874
                    · replace hF := (if_pos q220).symm.trans hF
                      refine kw_aload_n X dL_acts_831 rfl 0 rfl ?_
                      refine kw_iload X dL_acts_832 12 rfl ?_
                      refine kw_iconst X dL_acts_834 ci_0 ?_
                      obtain ⟨b221, hx221, hF⟩ := ob1_ex hF
                      refine kb_ap X (r := .int b221) (As := [.int b213, .int 0]) (st := []) (cm_umbrella l D cI cC cR h0 h1 t0 t1 a b d ah w215 b213 0 b221 hx221) vl_L_15 yv_X6_umbrella ⟨Nat.le_of_ble_eq_true rfl, Nat.le_of_ble_eq_true rfl⟩ ⟨rfl, rfl⟩ ⟨Nat.le_of_ble_eq_true rfl, Nat.le_of_ble_eq_true rfl⟩ 0 0 rfl bO_0 rfl rfl rfl (Nat.le_of_ble_eq_true rfl) dL_acts_835 ?_
                      refine kw_iconst X dL_acts_838 ci_2 ?_
                      refine kw_icmp_ne X 873 dL_acts_839 (by decide) (fun q222 => ?_) (fun q222 => ?_)
                      · replace hF := (if_neg q222).symm.trans hF
                        refine kw_iconst X dL_acts_873 ci_0 ?_
                        obtain ⟨rfl, rfl⟩ := si2 hF
                        refine kw_widen (n' := 2) (z' := 72) (by decide) (by decide) ?_
                        refine kb_first ?_
                        exact hret _ _ rfl dL_acts_874
                      · replace hF := (if_pos q222).symm.trans hF
                        refine kw_aload_n X dL_acts_842 rfl 0 rfl ?_
                        refine kw_iload X dL_acts_843 12 rfl ?_
                        refine kw_iconst X dL_acts_845 ci_1 ?_
                        obtain ⟨b223, hx223, hF⟩ := ob1_ex hF
                        refine kb_ap X (r := .int b223) (As := [.int b213, .int 1]) (st := []) (cm_umbrella l D cI cC cR h0 h1 t0 t1 a b d ah w215 b213 1 b223 hx223) vl_L_15 yv_X6_umbrella ⟨Nat.le_of_ble_eq_true rfl, Nat.le_of_ble_eq_true rfl⟩ ⟨rfl, rfl⟩ ⟨Nat.le_of_ble_eq_true rfl, Nat.le_of_ble_eq_true rfl⟩ 0 0 rfl bO_0 rfl rfl rfl (Nat.le_of_ble_eq_true rfl) dL_acts_846 ?_
                        refine kw_iload X dL_acts_849 9 rfl ?_
                        refine kw_icmp_ne X 873 dL_acts_851 (by decide) (fun q224 => ?_) (fun q224 => ?_)
                        · replace hF := (if_neg q224).symm.trans hF
                          refine kw_iconst X dL_acts_873 ci_0 ?_
                          obtain ⟨rfl, rfl⟩ := si2 hF
                          refine kw_widen (n' := 2) (z' := 72) (by decide) (by decide) ?_
                          refine kb_first ?_
                          exact hret _ _ rfl dL_acts_874
                        · replace hF := (if_pos q224).symm.trans hF
                          refine kw_aload_n X dL_acts_854 rfl 0 rfl ?_
                          refine kw_iload X dL_acts_855 4 rfl ?_
                          refine kw_iconst X dL_acts_857 ci_1 ?_
                          obtain ⟨b225, hx225, hF⟩ := ob1_ex hF
                          refine kb_ap X (r := .int b225) (As := [.int (f_L_low p3 8), .int 1]) (st := []) (cm_stand l D cI cC cR h0 h1 t0 t1 a b d ah w215 (f_L_low p3 8) 1 Z b225 hx225) vl_L_24 yv_X6_stand ⟨Nat.le_of_ble_eq_true rfl, Nat.le_of_ble_eq_true rfl⟩ ⟨rfl, rfl⟩ ⟨Nat.le_of_ble_eq_true rfl, Nat.le_of_ble_eq_true rfl⟩ 0 0 rfl bO_0 rfl rfl rfl (Nat.le_of_ble_eq_true rfl) dL_acts_858 ?_
                          refine kw_iload X dL_acts_861 8 rfl ?_
                          refine kw_iload X dL_acts_863 10 rfl ?_
                          refine kw_isub X dL_acts_865 ?_
                          refine kw_icmp_ne X 873 dL_acts_866 (by decide) (fun q226 => ?_) (fun q226 => ?_)
                          · replace hF := (if_neg q226).symm.trans hF
                            refine kw_iconst X dL_acts_873 ci_0 ?_
                            obtain ⟨rfl, rfl⟩ := si2 hF
                            refine kw_widen (n' := 2) (z' := 72) (by decide) (by decide) ?_
                            refine kb_first ?_
                            exact hret _ _ rfl dL_acts_874
                          · replace hF := (if_pos q226).symm.trans hF
                            refine kw_iconst X dL_acts_869 ci_1 ?_
                            refine kw_goto X 874 dL_acts_870 (by decide) ?_
                            obtain ⟨rfl, rfl⟩ := si2 hF
                            refine kw_widen (n' := 2) (z' := 72) (by decide) (by decide) ?_
                            refine kb_first ?_
                            exact hret _ _ rfl dL_acts_874
              · replace hF := (if_pos q216).symm.trans hF
                refine kw_iload X dL_acts_789 8 rfl ?_
                refine kw_iload X dL_acts_791 10 rfl ?_
                refine kw_icmp_ge X 800 dL_acts_793 (by decide) (fun q227 => ?_) (fun q227 => ?_)
                · replace hF := (if_neg q227).symm.trans hF
                  refine kw_iconst X dL_acts_800 ci_0 ?_
                  refine kw_goto X 874 dL_acts_801 (by decide) ?_
                  obtain ⟨rfl, rfl⟩ := si2 hF
                  refine kw_widen (n' := 2) (z' := 72) (by decide) (by decide) ?_
                  refine kb_first ?_
                  exact hret _ _ rfl dL_acts_874
                · replace hF := (if_pos q227).symm.trans hF
                  refine kw_iconst X dL_acts_796 ci_1 ?_
                  refine kw_goto X 874 dL_acts_797 (by decide) ?_
                  obtain ⟨rfl, rfl⟩ := si2 hF
                  refine kw_widen (n' := 2) (z' := 72) (by decide) (by decide) ?_
                  refine kb_first ?_
                  exact hret _ _ rfl dL_acts_874
          · replace hF := (if_pos q8).symm.trans hF
            refine kw_iload_n X dL_acts_582 rfl 2 rfl ?_
            refine kw_iconst X dL_acts_583 ci_3 ?_
            refine kw_ishr X dL_acts_584 ?_
            refine kw_iconst X dL_acts_585 ci_4 ?_
            refine kw_sp X (r := .int (f_L_low (p3 >>> ((3 : Int32) &&& 31)) 4)) (As := [.int (p3 >>> ((3 : Int32) &&& 31)), .int 4]) (st := []) (c_L_low l D cI cC cR (p3 >>> ((3 : Int32) &&& 31)) 4 (by decide)) vl_L_41 yv_L_low ⟨Nat.le_of_ble_eq_true rfl, Nat.le_of_ble_eq_true rfl⟩ ⟨rfl, rfl⟩ ⟨Nat.le_of_ble_eq_true rfl, Nat.le_of_ble_eq_true rfl⟩ [] rfl rfl rfl rfl (Nat.le_of_ble_eq_true rfl) dL_acts_586 ?_
            obtain ⟨x229, hx230, hF⟩ := pl1_ex hF
            have J : KW Γ 0 0 (wj [bO cI cC cR h0 h1 t0 t1 a b d ah v]) [(0, .ref h0), (2, .int p3), (4, .int (f_L_low p3 8)), (8, .int b3)] 615 [.int x229] := by
              refine kw_istore (lo' := [(0, .ref h0), (2, .int p3), (4, .int (f_L_low p3 8)), (8, .int b3), (9, .int x229)]) X dL_acts_615 (by decide) [1, 2, 3, 4, 0] rfl ?_
              refine kw_aload_n X dL_acts_617 rfl 0 rfl ?_
              refine kw_iload X dL_acts_618 2 rfl ?_
              refine kw_iconst X dL_acts_620 ci_0 ?_
              obtain ⟨b231, hx231, hF⟩ := ob1_ex hF
              refine kb_ap X (r := .int b231) (As := [.int (f_L_low p3 8), .int 0]) (st := []) (cm_stand l D cI cC cR h0 h1 t0 t1 a b d ah v (f_L_low p3 8) 0 Z b231 hx231) vl_L_24 yv_X6_stand ⟨Nat.le_of_ble_eq_true rfl, Nat.le_of_ble_eq_true rfl⟩ ⟨rfl, rfl⟩ ⟨Nat.le_of_ble_eq_true rfl, Nat.le_of_ble_eq_true rfl⟩ 0 0 rfl bO_0 rfl rfl rfl (Nat.le_of_ble_eq_true rfl) dL_acts_621 ?_
              refine kw_istore (lo' := [(0, .ref h0), (2, .int p3), (4, .int (f_L_low p3 8)), (8, .int b3), (9, .int x229), (10, .int b231)]) X dL_acts_624 (by decide) [1, 2, 3, 4, 5, 0] rfl ?_
              refine kw_aload_n X dL_acts_626 rfl 0 rfl ?_
              refine kw_bipush X dL_acts_627 cb_14 ?_
              obtain ⟨b232, hx232, hF⟩ := ob1_ex hF
              refine kb_ap X (r := .int b232) (As := [.int 14]) (st := []) (cm_count l D cI cC cR h0 h1 t0 t1 a b d ah v 14 Z b232 hx232) vl_L_9 yv_X6_count ⟨Nat.le_of_ble_eq_true rfl, Nat.le_of_ble_eq_true rfl⟩ ⟨rfl, rfl⟩ ⟨Nat.le_of_ble_eq_true rfl, Nat.le_of_ble_eq_true rfl⟩ 0 0 rfl bO_0 rfl rfl rfl (Nat.le_of_ble_eq_true rfl) dL_acts_629 ?_
              refine kw_istore (lo' := [(0, .ref h0), (2, .int p3), (4, .int (f_L_low p3 8)), (8, .int b3), (9, .int x229), (10, .int b231), (11, .int b232)]) X dL_acts_632 (by decide) [1, 2, 3, 4, 5, 6, 0] rfl ?_
              refine kw_aload_n X dL_acts_634 rfl 0 rfl ?_
              refine kw_iload X dL_acts_635 2 rfl ?_
              refine kw_iload X dL_acts_637 4 rfl ?_
              obtain ⟨b233, w234, hx234, hF⟩ := ob2_ex hF
              refine kb_aei X (r := .int b233) (As := [.int (f_L_low p3 8), .int x229]) (st := []) (bs' := [bO cI cC cR h0 h1 t0 t1 a b d ah w234]) E (cm_set l D cI cC cR h0 h1 t0 t1 a b d ah v (f_L_low p3 8) x229 b233 w234 hx234) vl_L_59 yv_X6_set ⟨Nat.le_of_ble_eq_true rfl, Nat.le_of_ble_eq_true rfl⟩ ⟨rfl, rfl⟩ ⟨Nat.le_of_ble_eq_true rfl, Nat.le_of_ble_eq_true rfl⟩ 0 0 rfl bO_0 rfl rfl rfl (Nat.le_of_ble_eq_true rfl) dL_acts_639 ((bO cI cC cR h0 h1 t0 t1 a b d ah v).map (·.1)) bO_same rfl rfl ?_
              refine kw_iload X dL_acts_642 3 rfl ?_
              refine kw_iload X dL_acts_644 4 rfl ?_
              obtain ⟨x236, hx237, hF⟩ := pl1_ex hF
              have J : KW Γ 0 0 (wj [bO cI cC cR h0 h1 t0 t1 a b d ah w234]) [(0, .ref h0), (2, .int p3), (4, .int (f_L_low p3 8)), (8, .int b3), (9, .int x229), (10, .int b231), (11, .int b232)] 656 [.int x236, .int b233] := by
                refine kw_icmp_ne X 725 dL_acts_656 (by decide) (fun q238 => ?_) (fun q238 => ?_)
                · replace hF := (if_neg q238).symm.trans hF
                  refine kw_iconst X dL_acts_725 ci_0 ?_
                  obtain ⟨rfl, rfl⟩ := si2 hF
                  refine kw_widen (n' := 2) (z' := 72) (by decide) (by decide) ?_
                  refine kb_first ?_
                  exact hret _ _ rfl dL_acts_726
                · replace hF := (if_pos q238).symm.trans hF
                  refine kw_aload_n X dL_acts_659 rfl 0 rfl ?_
                  refine kw_iload X dL_acts_660 2 rfl ?_
                  refine kw_iconst X dL_acts_662 ci_0 ?_
                  obtain ⟨b239, hx239, hF⟩ := ob1_ex hF
                  refine kb_ap X (r := .int b239) (As := [.int (f_L_low p3 8), .int 0]) (st := []) (cm_stand l D cI cC cR h0 h1 t0 t1 a b d ah w234 (f_L_low p3 8) 0 Z b239 hx239) vl_L_24 yv_X6_stand ⟨Nat.le_of_ble_eq_true rfl, Nat.le_of_ble_eq_true rfl⟩ ⟨rfl, rfl⟩ ⟨Nat.le_of_ble_eq_true rfl, Nat.le_of_ble_eq_true rfl⟩ 0 0 rfl bO_0 rfl rfl rfl (Nat.le_of_ble_eq_true rfl) dL_acts_663 ?_
                  refine kw_iload X dL_acts_666 3 rfl ?_
                  refine kw_iload X dL_acts_668 4 rfl ?_
                  obtain ⟨x241, hx242, hF⟩ := pl1_ex hF
                  have J : KW Γ 0 0 (wj [bO cI cC cR h0 h1 t0 t1 a b d ah w234]) [(0, .ref h0), (2, .int p3), (11, .int b232)] 680 [.int x241, .int b239] := by
                    refine kw_icmp_ne X 725 dL_acts_680 (by decide) (fun q243 => ?_) (fun q243 => ?_)
                    · replace hF := (if_neg q243).symm.trans hF
                      refine kw_iconst X dL_acts_725 ci_0 ?_
                      obtain ⟨rfl, rfl⟩ := si2 hF
                      refine kw_widen (n' := 2) (z' := 72) (by decide) (by decide) ?_
                      refine kb_first ?_
                      exact hret _ _ rfl dL_acts_726
                    · replace hF := (if_pos q243).symm.trans hF
                      refine kw_aload_n X dL_acts_683 rfl 0 rfl ?_
                      refine kw_bipush X dL_acts_684 cb_8 ?_
                      refine kw_iload_n X dL_acts_686 rfl 1 rfl ?_
                      refine kw_bipush X dL_acts_687 cb_9 ?_
                      refine kw_ishr X dL_acts_689 ?_
                      refine kw_bipush X dL_acts_690 cb_6 ?_
                      refine kw_sp X (r := .int (f_L_low (p3 >>> ((9 : Int32) &&& 31)) 6)) (As := [.int (p3 >>> ((9 : Int32) &&& 31)), .int 6]) (st := [.int 8, .ref h0]) (c_L_low l D cI cC cR (p3 >>> ((9 : Int32) &&& 31)) 6 (by decide)) vl_L_41 yv_L_low ⟨Nat.le_of_ble_eq_true rfl, Nat.le_of_ble_eq_true rfl⟩ ⟨rfl, rfl⟩ ⟨Nat.le_of_ble_eq_true rfl, Nat.le_of_ble_eq_true rfl⟩ [] rfl rfl rfl rfl (Nat.le_of_ble_eq_true rfl) dL_acts_692 ?_
                      obtain ⟨b244, w245, hx245, hF⟩ := ob2_ex hF
                      refine kb_aei X (r := .int b244) (As := [.int 8, .int (f_L_low (p3 >>> ((9 : Int32) &&& 31)) 6)]) (st := []) (bs' := [bO cI cC cR h0 h1 t0 t1 a b d ah w245]) E (cm_set l D cI cC cR h0 h1 t0 t1 a b d ah w234 8 (f_L_low (p3 >>> ((9 : Int32) &&& 31)) 6) b244 w245 hx245) vl_L_59 yv_X6_set ⟨Nat.le_of_ble_eq_true rfl, Nat.le_of_ble_eq_true rfl⟩ ⟨rfl, rfl⟩ ⟨Nat.le_of_ble_eq_true rfl, Nat.le_of_ble_eq_true rfl⟩ 0 0 rfl bO_0 rfl rfl rfl (Nat.le_of_ble_eq_true rfl) dL_acts_695 ((bO cI cC cR h0 h1 t0 t1 a b d ah w234).map (·.1)) bO_same rfl rfl ?_
                      refine kw_iload X dL_acts_698 2 rfl ?_
                      refine kw_icmp_ne X 725 dL_acts_700 (by decide) (fun q246 => ?_) (fun q246 => ?_)
                      · replace hF := (if_neg q246).symm.trans hF
                        refine kw_iconst X dL_acts_725 ci_0 ?_
                        obtain ⟨rfl, rfl⟩ := si2 hF
                        refine kw_widen (n' := 2) (z' := 72) (by decide) (by decide) ?_
                        refine kb_first ?_
                        exact hret _ _ rfl dL_acts_726
                      · replace hF := (if_pos q246).symm.trans hF
                        refine kw_aload_n X dL_acts_703 rfl 0 rfl ?_
                        refine kw_bipush X dL_acts_704 cb_14 ?_
                        obtain ⟨b247, hx247, hF⟩ := ob1_ex hF
                        refine kb_ap X (r := .int b247) (As := [.int 14]) (st := []) (cm_count l D cI cC cR h0 h1 t0 t1 a b d ah w245 14 Z b247 hx247) vl_L_9 yv_X6_count ⟨Nat.le_of_ble_eq_true rfl, Nat.le_of_ble_eq_true rfl⟩ ⟨rfl, rfl⟩ ⟨Nat.le_of_ble_eq_true rfl, Nat.le_of_ble_eq_true rfl⟩ 0 0 rfl bO_0 rfl rfl rfl (Nat.le_of_ble_eq_true rfl) dL_acts_706 ?_
                        refine kw_iload_n X dL_acts_709 rfl 1 rfl ?_
                        refine kw_bipush X dL_acts_710 cb_9 ?_
                        refine kw_ishr X dL_acts_712 ?_
                        refine kw_bipush X dL_acts_713 cb_6 ?_
                        refine kw_sp X (r := .int (f_L_low (p3 >>> ((9 : Int32) &&& 31)) 6)) (As := [.int (p3 >>> ((9 : Int32) &&& 31)), .int 6]) (st := [.int b247]) (c_L_low l D cI cC cR (p3 >>> ((9 : Int32) &&& 31)) 6 (by decide)) vl_L_41 yv_L_low ⟨Nat.le_of_ble_eq_true rfl, Nat.le_of_ble_eq_true rfl⟩ ⟨rfl, rfl⟩ ⟨Nat.le_of_ble_eq_true rfl, Nat.le_of_ble_eq_true rfl⟩ [] rfl rfl rfl rfl (Nat.le_of_ble_eq_true rfl) dL_acts_715 ?_
                        refine kw_icmp_ne X 725 dL_acts_718 (by decide) (fun q248 => ?_) (fun q248 => ?_)
                        · replace hF := (if_neg q248).symm.trans hF
                          refine kw_iconst X dL_acts_725 ci_0 ?_
                          obtain ⟨rfl, rfl⟩ := si2 hF
                          refine kw_widen (n' := 2) (z' := 72) (by decide) (by decide) ?_
                          refine kb_first ?_
                          exact hret _ _ rfl dL_acts_726
                        · replace hF := (if_pos q248).symm.trans hF
                          refine kw_iconst X dL_acts_721 ci_1 ?_
                          refine kw_goto X 726 dL_acts_722 (by decide) ?_
                          obtain ⟨rfl, rfl⟩ := si2 hF
                          refine kw_widen (n' := 2) (z' := 72) (by decide) (by decide) ?_
                          refine kb_first ?_
                          exact hret _ _ rfl dL_acts_726
                  replace hF := hx242
                  refine kw_icmp_le X 678 dL_acts_670 (by decide) (fun q240 => ?_) (fun q240 => ?_)
                  · replace hF := (if_neg q240).symm.trans hF
                    refine kw_iload X dL_acts_678 4 rfl ?_
                    refine kw_loc (lo' := [(0, .ref h0), (2, .int p3), (11, .int b232)]) [0, 1, 6] rfl ?_
                    obtain rfl := ti1 hF
                    exact J
                  · replace hF := (if_pos q240).symm.trans hF
                    refine kw_iload X dL_acts_673 5 rfl ?_
                    refine kw_goto X 680 dL_acts_675 (by decide) ?_
                    refine kw_loc (lo' := [(0, .ref h0), (2, .int p3), (11, .int b232)]) [0, 1, 6] rfl ?_
                    obtain rfl := ti1 hF
                    exact J
              replace hF := hx237
              refine kw_icmp_le X 654 dL_acts_646 (by decide) (fun q235 => ?_) (fun q235 => ?_)
              · replace hF := (if_neg q235).symm.trans hF
                refine kw_iload X dL_acts_654 5 rfl ?_
                obtain rfl := ti1 hF
                exact J
              · replace hF := (if_pos q235).symm.trans hF
                refine kw_bipush X dL_acts_649 cb_m2 ?_
                refine kw_goto X 656 dL_acts_651 (by decide) ?_
                obtain rfl := ti1 hF
                exact J
            replace hF := hx230
            refine kw_if_ne X 605 dL_acts_589 (by decide) (fun q228 => ?_) (fun q228 => ?_)
            · replace hF := (if_neg q228).symm.trans hF
              refine kw_iconst X dL_acts_605 ci_3 ?_
              refine kw_iload_n X dL_acts_606 rfl 2 rfl ?_
              refine kw_iconst X dL_acts_607 ci_5 ?_
              refine kw_ishr X dL_acts_608 ?_
              refine kw_bipush X dL_acts_609 cb_9 ?_
              refine kw_sp X (r := .int (f_L_low (p3 >>> ((5 : Int32) &&& 31)) 9)) (As := [.int (p3 >>> ((5 : Int32) &&& 31)), .int 9]) (st := [.int 3]) (c_L_low l D cI cC cR (p3 >>> ((5 : Int32) &&& 31)) 9 (by decide)) vl_L_41 yv_L_low ⟨Nat.le_of_ble_eq_true rfl, Nat.le_of_ble_eq_true rfl⟩ ⟨rfl, rfl⟩ ⟨Nat.le_of_ble_eq_true rfl, Nat.le_of_ble_eq_true rfl⟩ [] rfl rfl rfl rfl (Nat.le_of_ble_eq_true rfl) dL_acts_611 ?_
              refine kw_iadd X dL_acts_614 ?_
              refine kw_loc (lo' := [(0, .ref h0), (2, .int p3), (4, .int (f_L_low p3 8)), (8, .int b3)]) [0, 2, 4, 8] rfl ?_
              obtain rfl := ti1 hF
              exact J
            · replace hF := (if_pos q228).symm.trans hF
              refine kw_iconst X dL_acts_592 ci_1 ?_
              refine kw_iload_n X dL_acts_593 rfl 2 rfl ?_
              refine kw_iconst X dL_acts_594 ci_5 ?_
              refine kw_ishr X dL_acts_595 ?_
              refine kw_bipush X dL_acts_596 cb_20 ?_
              refine kw_sp X (r := .int (f_L_low (p3 >>> ((5 : Int32) &&& 31)) 20)) (As := [.int (p3 >>> ((5 : Int32) &&& 31)), .int 20]) (st := [.int 1]) (c_L_low l D cI cC cR (p3 >>> ((5 : Int32) &&& 31)) 20 (by decide)) vl_L_41 yv_L_low ⟨Nat.le_of_ble_eq_true rfl, Nat.le_of_ble_eq_true rfl⟩ ⟨rfl, rfl⟩ ⟨Nat.le_of_ble_eq_true rfl, Nat.le_of_ble_eq_true rfl⟩ [] rfl rfl rfl rfl (Nat.le_of_ble_eq_true rfl) dL_acts_598 ?_
              refine kw_iadd X dL_acts_601 ?_
              refine kw_goto X 615 dL_acts_602 (by decide) ?_
              refine kw_loc (lo' := [(0, .ref h0), (2, .int p3), (4, .int (f_L_low p3 8)), (8, .int b3)]) [0, 2, 4, 8] rfl ?_
              obtain rfl := ti1 hF
              exact J
        · replace hF := (if_pos q7).symm.trans hF
          refine kw_aload_n X dL_acts_558 rfl 0 rfl ?_
          refine kw_iload_n X dL_acts_559 rfl 2 rfl ?_
          refine kw_bipush X dL_acts_560 cb_10 ?_
          refine kw_sp X (r := .int (f_L_low p3 10)) (As := [.int p3, .int 10]) (st := [.ref h0]) (c_L_low l D cI cC cR p3 10 (by decide)) vl_L_41 yv_L_low ⟨Nat.le_of_ble_eq_true rfl, Nat.le_of_ble_eq_true rfl⟩ ⟨rfl, rfl⟩ ⟨Nat.le_of_ble_eq_true rfl, Nat.le_of_ble_eq_true rfl⟩ [] rfl rfl rfl rfl (Nat.le_of_ble_eq_true rfl) dL_acts_562 ?_
          refine kw_iload_n X dL_acts_565 rfl 2 rfl ?_
          refine kw_iconst X dL_acts_566 ci_4 ?_
          refine kw_ishr X dL_acts_567 ?_
          refine kw_iconst X dL_acts_568 ci_4 ?_
          refine kw_sp X (r := .int (f_L_low (p3 >>> ((4 : Int32) &&& 31)) 4)) (As := [.int (p3 >>> ((4 : Int32) &&& 31)), .int 4]) (st := [.int (f_L_low p3 10), .ref h0]) (c_L_low l D cI cC cR (p3 >>> ((4 : Int32) &&& 31)) 4 (by decide)) vl_L_41 yv_L_low ⟨Nat.le_of_ble_eq_true rfl, Nat.le_of_ble_eq_true rfl⟩ ⟨rfl, rfl⟩ ⟨Nat.le_of_ble_eq_true rfl, Nat.le_of_ble_eq_true rfl⟩ [] rfl rfl rfl rfl (Nat.le_of_ble_eq_true rfl) dL_acts_569 ?_
          obtain ⟨b249, w250, hx250, hF⟩ := ob2_ex hF
          refine kb_sen X (r := .int b249) (As := [.ref h0, .int (f_L_low p3 10), .int (f_L_low (p3 >>> ((4 : Int32) &&& 31)) 4)]) (st := []) (bs' := [bO cI cC cR h0 h1 t0 t1 a b d ah w250]) E (c_L_hour l D cI cC cR h0 h1 t0 t1 a b d ah v (f_L_low p3 10) (f_L_low (p3 >>> ((4 : Int32) &&& 31)) 4) Z b249 w250 (b01_ex hx250).1) vl_L_56 yv_L_hour ⟨Nat.le_of_ble_eq_true rfl, Nat.le_of_ble_eq_true rfl⟩ ⟨rfl, rfl⟩ ⟨Nat.le_of_ble_eq_true rfl, Nat.le_of_ble_eq_true rfl⟩ 0 rfl rfl rfl (Nat.le_of_ble_eq_true rfl) dL_acts_572 bO_same rfl ?_
          obtain ⟨rfl, rfl⟩ := si2 hF
          refine kb_first ?_
          exact hret _ _ (bz_n (b01_ex hx250).2) dL_acts_575
      · replace hF := (if_pos q6).symm.trans hF
        refine kw_aload_n X dL_acts_364 rfl 0 rfl ?_
        refine kw_iload X dL_acts_365 5 rfl ?_
        refine kw_iconst X dL_acts_367 ci_1 ?_
        obtain ⟨b251, hx251, hF⟩ := ob1_ex hF
        refine kb_ap X (r := .int b251) (As := [.int (f_L_low (p3 >>> ((3 : Int32) &&& 31)) 12), .int 1]) (st := []) (cm_person l D cI cC cR h0 h1 t0 t1 a b d ah v (f_L_low (p3 >>> ((3 : Int32) &&& 31)) 12) 1 Z b251 hx251) vl_L_21 yv_X6_person ⟨Nat.le_of_ble_eq_true rfl, Nat.le_of_ble_eq_true rfl⟩ ⟨rfl, rfl⟩ ⟨Nat.le_of_ble_eq_true rfl, Nat.le_of_ble_eq_true rfl⟩ 0 0 rfl bO_0 rfl rfl rfl (Nat.le_of_ble_eq_true rfl) dL_acts_368 ?_
        refine kw_istore (lo' := [(0, .ref h0), (1, .int p2), (2, .int p3), (3, .int (f_L_low p2 16)), (4, .int (f_L_low p3 8)), (5, .int (f_L_low (p3 >>> ((3 : Int32) &&& 31)) 12)), (6, .int b1), (7, .int b2), (8, .int b3), (9, .int b251)]) X dL_acts_371 (by decide) [1, 2, 3, 4, 5, 6, 7, 8, 9, 0] rfl ?_
        refine kw_aload_n X dL_acts_373 rfl 0 rfl ?_
        refine kw_iload X dL_acts_374 5 rfl ?_
        refine kw_iconst X dL_acts_376 ci_0 ?_
        refine kw_iconst X dL_acts_377 ci_0 ?_
        obtain ⟨b252, hx252, hF⟩ := ob1_ex hF
        refine kb_ap X (r := .int b252) (As := [.int (f_L_low (p3 >>> ((3 : Int32) &&& 31)) 12), .int 0, .int 0]) (st := []) (cm_feeIn l D cI cC cR h0 h1 t0 t1 a b d ah v (f_L_low (p3 >>> ((3 : Int32) &&& 31)) 12) 0 0 Z b252 hx252) vl_L_27 yv_X6_feeIn ⟨Nat.le_of_ble_eq_true rfl, Nat.le_of_ble_eq_true rfl⟩ ⟨rfl, rfl⟩ ⟨Nat.le_of_ble_eq_true rfl, Nat.le_of_ble_eq_true rfl⟩ 0 0 rfl bO_0 rfl rfl rfl (Nat.le_of_ble_eq_true rfl) dL_acts_378 ?_
        refine kw_istore (lo' := [(0, .ref h0), (1, .int p2), (2, .int p3), (3, .int (f_L_low p2 16)), (4, .int (f_L_low p3 8)), (5, .int (f_L_low (p3 >>> ((3 : Int32) &&& 31)) 12)), (6, .int b1), (7, .int b2), (8, .int b3), (9, .int b251), (10, .int b252)]) X dL_acts_381 (by decide) [1, 2, 3, 4, 5, 6, 7, 8, 9, 10, 0] rfl ?_
        refine kw_aload_n X dL_acts_383 rfl 0 rfl ?_
        refine kw_iload X dL_acts_384 5 rfl ?_
        refine kw_iload X dL_acts_386 4 rfl ?_
        obtain ⟨b253, w254, hx254, hF⟩ := ob2_ex hF
        refine kb_aei X (r := .int b253) (As := [.int (f_L_low (p3 >>> ((3 : Int32) &&& 31)) 12), .int (f_L_low p3 8)]) (st := []) (bs' := [bO cI cC cR h0 h1 t0 t1 a b d ah w254]) E (cm_bringBack l D cI cC cR h0 h1 t0 t1 a b d ah v (f_L_low (p3 >>> ((3 : Int32) &&& 31)) 12) (f_L_low p3 8) Z b253 w254 hx254) vl_L_50 yv_X6_bringBack ⟨Nat.le_of_ble_eq_true rfl, Nat.le_of_ble_eq_true rfl⟩ ⟨rfl, rfl⟩ ⟨Nat.le_of_ble_eq_true rfl, Nat.le_of_ble_eq_true rfl⟩ 0 0 rfl bO_0 rfl rfl rfl (Nat.le_of_ble_eq_true rfl) dL_acts_388 ((bO cI cC cR h0 h1 t0 t1 a b d ah v).map (·.1)) bO_same rfl rfl ?_
        refine kw_istore (lo' := [(0, .ref h0), (1, .int p2), (2, .int p3), (3, .int (f_L_low p2 16)), (4, .int (f_L_low p3 8)), (5, .int (f_L_low (p3 >>> ((3 : Int32) &&& 31)) 12)), (6, .int b1), (7, .int b2), (8, .int b3), (9, .int b251), (10, .int b252), (11, .int b253)]) X dL_acts_391 (by decide) [1, 2, 3, 4, 5, 6, 7, 8, 9, 10, 11, 0] rfl ?_
        refine kw_iload X dL_acts_393 9 rfl ?_
        refine kw_bipush X dL_acts_395 cb_m9 ?_
        refine kw_icmp_ne X 420 dL_acts_397 (by decide) (fun q255 => ?_) (fun q255 => ?_)
        · replace hF := (if_neg q255).symm.trans hF
          refine kw_iload X dL_acts_420 11 rfl ?_
          refine kw_bipush X dL_acts_422 cb_m3 ?_
          refine kw_icmp_ne X 447 dL_acts_424 (by decide) (fun q256 => ?_) (fun q256 => ?_)
          · replace hF := (if_neg q256).symm.trans hF
            refine kw_iload X dL_acts_447 11 rfl ?_
            refine kw_iload X dL_acts_449 10 rfl ?_
            refine kw_icmp_ne X 550 dL_acts_451 (by decide) (fun q257 => ?_) (fun q257 => ?_)
            · replace hF := (if_neg q257).symm.trans hF
              refine kw_iconst X dL_acts_550 ci_0 ?_
              obtain ⟨rfl, rfl⟩ := si2 hF
              refine kw_widen (n' := 2) (z' := 72) (by decide) (by decide) ?_
              refine kb_first ?_
              exact hret _ _ rfl dL_acts_551
            · replace hF := (if_pos q257).symm.trans hF
              refine kw_aload_n X dL_acts_454 rfl 0 rfl ?_
              refine kw_iload X dL_acts_455 5 rfl ?_
              refine kw_iconst X dL_acts_457 ci_4 ?_
              obtain ⟨b258, hx258, hF⟩ := ob1_ex hF
              refine kb_ap X (r := .int b258) (As := [.int (f_L_low (p3 >>> ((3 : Int32) &&& 31)) 12), .int 4]) (st := []) (cm_person l D cI cC cR h0 h1 t0 t1 a b d ah w254 (f_L_low (p3 >>> ((3 : Int32) &&& 31)) 12) 4 Z b258 hx258) vl_L_21 yv_X6_person ⟨Nat.le_of_ble_eq_true rfl, Nat.le_of_ble_eq_true rfl⟩ ⟨rfl, rfl⟩ ⟨Nat.le_of_ble_eq_true rfl, Nat.le_of_ble_eq_true rfl⟩ 0 0 rfl bO_0 rfl rfl rfl (Nat.le_of_ble_eq_true rfl) dL_acts_458 ?_
              refine kw_iload X dL_acts_461 4 rfl ?_
              refine kw_icmp_ne X 550 dL_acts_463 (by decide) (fun q259 => ?_) (fun q259 => ?_)
              · replace hF := (if_neg q259).symm.trans hF
                refine kw_iconst X dL_acts_550 ci_0 ?_
                obtain ⟨rfl, rfl⟩ := si2 hF
                refine kw_widen (n' := 2) (z' := 72) (by decide) (by decide) ?_
                refine kb_first ?_
                exact hret _ _ rfl dL_acts_551
              · replace hF := (if_pos q259).symm.trans hF
                refine kw_aload_n X dL_acts_466 rfl 0 rfl ?_
                refine kw_iload X dL_acts_467 9 rfl ?_
                refine kw_iconst X dL_acts_469 ci_0 ?_
                obtain ⟨b260, hx260, hF⟩ := ob1_ex hF
                refine kb_ap X (r := .int b260) (As := [.int b251, .int 0]) (st := []) (cm_umbrella l D cI cC cR h0 h1 t0 t1 a b d ah w254 b251 0 b260 hx260) vl_L_15 yv_X6_umbrella ⟨Nat.le_of_ble_eq_true rfl, Nat.le_of_ble_eq_true rfl⟩ ⟨rfl, rfl⟩ ⟨Nat.le_of_ble_eq_true rfl, Nat.le_of_ble_eq_true rfl⟩ 0 0 rfl bO_0 rfl rfl rfl (Nat.le_of_ble_eq_true rfl) dL_acts_470 ?_
                refine kw_if_ne X 550 dL_acts_473 (by decide) (fun q261 => ?_) (fun q261 => ?_)
                · replace hF := (if_neg q261).symm.trans hF
                  refine kw_iconst X dL_acts_550 ci_0 ?_
                  obtain ⟨rfl, rfl⟩ := si2 hF
                  refine kw_widen (n' := 2) (z' := 72) (by decide) (by decide) ?_
                  refine kb_first ?_
                  exact hret _ _ rfl dL_acts_551
                · replace hF := (if_pos q261).symm.trans hF
                  refine kw_aload_n X dL_acts_476 rfl 0 rfl ?_
                  refine kw_iload X dL_acts_477 9 rfl ?_
                  refine kw_iconst X dL_acts_479 ci_1 ?_
                  obtain ⟨b262, hx262, hF⟩ := ob1_ex hF
                  refine kb_ap X (r := .int b262) (As := [.int b251, .int 1]) (st := []) (cm_umbrella l D cI cC cR h0 h1 t0 t1 a b d ah w254 b251 1 b262 hx262) vl_L_15 yv_X6_umbrella ⟨Nat.le_of_ble_eq_true rfl, Nat.le_of_ble_eq_true rfl⟩ ⟨rfl, rfl⟩ ⟨Nat.le_of_ble_eq_true rfl, Nat.le_of_ble_eq_true rfl⟩ 0 0 rfl bO_0 rfl rfl rfl (Nat.le_of_ble_eq_true rfl) dL_acts_480 ?_
                  refine kw_iload X dL_acts_483 4 rfl ?_
                  refine kw_icmp_ne X 550 dL_acts_485 (by decide) (fun q263 => ?_) (fun q263 => ?_)
                  · replace hF := (if_neg q263).symm.trans hF
                    refine kw_iconst X dL_acts_550 ci_0 ?_
                    obtain ⟨rfl, rfl⟩ := si2 hF
                    refine kw_widen (n' := 2) (z' := 72) (by decide) (by decide) ?_
                    refine kb_first ?_
                    exact hret _ _ rfl dL_acts_551
                  · replace hF := (if_pos q263).symm.trans hF
                    refine kw_aload_n X dL_acts_488 rfl 0 rfl ?_
                    refine kw_bipush X dL_acts_489 cb_8 ?_
                    obtain ⟨b264, hx264, hF⟩ := ob1_ex hF
                    refine kb_ap X (r := .int b264) (As := [.int 8]) (st := []) (cm_count l D cI cC cR h0 h1 t0 t1 a b d ah w254 8 Z b264 hx264) vl_L_9 yv_X6_count ⟨Nat.le_of_ble_eq_true rfl, Nat.le_of_ble_eq_true rfl⟩ ⟨rfl, rfl⟩ ⟨Nat.le_of_ble_eq_true rfl, Nat.le_of_ble_eq_true rfl⟩ 0 0 rfl bO_0 rfl rfl rfl (Nat.le_of_ble_eq_true rfl) dL_acts_491 ?_
                    refine kw_iload X dL_acts_494 7 rfl ?_
                    refine kw_bipush X dL_acts_496 cb_10 ?_
                    refine kw_isub X dL_acts_498 ?_
                    refine kw_iload X dL_acts_499 10 rfl ?_
                    refine kw_iadd X dL_acts_501 ?_
                    refine kw_icmp_ne X 550 dL_acts_502 (by decide) (fun q265 => ?_) (fun q265 => ?_)
                    · replace hF := (if_neg q265).symm.trans hF
                      refine kw_iconst X dL_acts_550 ci_0 ?_
                      obtain ⟨rfl, rfl⟩ := si2 hF
                      refine kw_widen (n' := 2) (z' := 72) (by decide) (by decide) ?_
                      refine kb_first ?_
                      exact hret _ _ rfl dL_acts_551
                    · replace hF := (if_pos q265).symm.trans hF
                      refine kw_iload_n X dL_acts_505 rfl 2 rfl ?_
                      refine kw_bipush X dL_acts_506 cb_9 ?_
                      refine kw_ishr X dL_acts_508 ?_
                      refine kw_iconst X dL_acts_509 ci_3 ?_
                      refine kw_sp X (r := .int (f_L_low (p3 >>> ((9 : Int32) &&& 31)) 3)) (As := [.int (p3 >>> ((9 : Int32) &&& 31)), .int 3]) (st := []) (c_L_low l D cI cC cR (p3 >>> ((9 : Int32) &&& 31)) 3 (by decide)) vl_L_41 yv_L_low ⟨Nat.le_of_ble_eq_true rfl, Nat.le_of_ble_eq_true rfl⟩ ⟨rfl, rfl⟩ ⟨Nat.le_of_ble_eq_true rfl, Nat.le_of_ble_eq_true rfl⟩ [] rfl rfl rfl rfl (Nat.le_of_ble_eq_true rfl) dL_acts_510 ?_
                      refine kw_if_gt X 546 dL_acts_513 (by decide) (fun q266 => ?_) (fun q266 => ?_)
                      · replace hF := (if_pos q266).symm.trans hF
                        refine kw_iconst X dL_acts_546 ci_1 ?_
                        refine kw_goto X 551 dL_acts_547 (by decide) ?_
                        obtain ⟨rfl, rfl⟩ := si2 hF
                        refine kw_widen (n' := 2) (z' := 72) (by decide) (by decide) ?_
                        refine kb_first ?_
                        exact hret _ _ rfl dL_acts_551
                      · replace hF := (if_neg q266).symm.trans hF
                        refine kw_aload_n X dL_acts_516 rfl 0 rfl ?_
                        obtain ⟨b267, w268, hx268, hF⟩ := ob2_ex hF
                        refine kb_aei X (r := .int b267) (As := []) (st := []) (bs' := [bO cI cC cR h0 h1 t0 t1 a b d ah w268]) E (cm_undo l D cI cC cR h0 h1 t0 t1 a b d ah w254 b267 w268 hx268) vl_L_53 yv_X6_undo ⟨Nat.le_of_ble_eq_true rfl, Nat.le_of_ble_eq_true rfl⟩ ⟨rfl, rfl⟩ ⟨Nat.le_of_ble_eq_true rfl, Nat.le_of_ble_eq_true rfl⟩ 0 0 rfl bO_0 rfl rfl rfl (Nat.le_of_ble_eq_true rfl) dL_acts_517 ((bO cI cC cR h0 h1 t0 t1 a b d ah w254).map (·.1)) bO_same rfl rfl ?_
                        refine kw_if_lt X 550 dL_acts_520 (by decide) (fun q269 => ?_) (fun q269 => ?_)
                        · replace hF := (if_pos q269).symm.trans hF
                          refine kw_iconst X dL_acts_550 ci_0 ?_
                          obtain ⟨rfl, rfl⟩ := si2 hF
                          refine kw_widen (n' := 2) (z' := 72) (by decide) (by decide) ?_
                          refine kb_first ?_
                          exact hret _ _ rfl dL_acts_551
                        · replace hF := (if_neg q269).symm.trans hF
                          refine kw_aload_n X dL_acts_523 rfl 0 rfl ?_
                          refine kw_iload X dL_acts_524 5 rfl ?_
                          refine kw_iconst X dL_acts_526 ci_1 ?_
                          obtain ⟨b270, hx270, hF⟩ := ob1_ex hF
                          refine kb_ap X (r := .int b270) (As := [.int (f_L_low (p3 >>> ((3 : Int32) &&& 31)) 12), .int 1]) (st := []) (cm_person l D cI cC cR h0 h1 t0 t1 a b d ah w268 (f_L_low (p3 >>> ((3 : Int32) &&& 31)) 12) 1 Z b270 hx270) vl_L_21 yv_X6_person ⟨Nat.le_of_ble_eq_true rfl, Nat.le_of_ble_eq_true rfl⟩ ⟨rfl, rfl⟩ ⟨Nat.le_of_ble_eq_true rfl, Nat.le_of_ble_eq_true rfl⟩ 0 0 rfl bO_0 rfl rfl rfl (Nat.le_of_ble_eq_true rfl) dL_acts_527 ?_
                          refine kw_iload X dL_acts_530 9 rfl ?_
                          refine kw_icmp_ne X 550 dL_acts_532 (by decide) (fun q271 => ?_) (fun q271 => ?_)
                          · replace hF := (if_neg q271).symm.trans hF
                            refine kw_iconst X dL_acts_550 ci_0 ?_
                            obtain ⟨rfl, rfl⟩ := si2 hF
                            refine kw_widen (n' := 2) (z' := 72) (by decide) (by decide) ?_
                            refine kb_first ?_
                            exact hret _ _ rfl dL_acts_551
                          · replace hF := (if_pos q271).symm.trans hF
                            refine kw_aload_n X dL_acts_535 rfl 0 rfl ?_
                            refine kw_bipush X dL_acts_536 cb_8 ?_
                            obtain ⟨b272, hx272, hF⟩ := ob1_ex hF
                            refine kb_ap X (r := .int b272) (As := [.int 8]) (st := []) (cm_count l D cI cC cR h0 h1 t0 t1 a b d ah w268 8 Z b272 hx272) vl_L_9 yv_X6_count ⟨Nat.le_of_ble_eq_true rfl, Nat.le_of_ble_eq_true rfl⟩ ⟨rfl, rfl⟩ ⟨Nat.le_of_ble_eq_true rfl, Nat.le_of_ble_eq_true rfl⟩ 0 0 rfl bO_0 rfl rfl rfl (Nat.le_of_ble_eq_true rfl) dL_acts_538 ?_
                            refine kw_iload X dL_acts_541 7 rfl ?_
                            refine kw_icmp_ne X 550 dL_acts_543 (by decide) (fun q273 => ?_) (fun q273 => ?_)
                            · replace hF := (if_neg q273).symm.trans hF
                              refine kw_iconst X dL_acts_550 ci_0 ?_
                              obtain ⟨rfl, rfl⟩ := si2 hF
                              refine kw_widen (n' := 2) (z' := 72) (by decide) (by decide) ?_
                              refine kb_first ?_
                              exact hret _ _ rfl dL_acts_551
                            · replace hF := (if_pos q273).symm.trans hF
                              refine kw_iconst X dL_acts_546 ci_1 ?_
                              refine kw_goto X 551 dL_acts_547 (by decide) ?_
                              obtain ⟨rfl, rfl⟩ := si2 hF
                              refine kw_widen (n' := 2) (z' := 72) (by decide) (by decide) ?_
                              refine kb_first ?_
                              exact hret _ _ rfl dL_acts_551
          · replace hF := (if_pos q256).symm.trans hF
            refine kw_iload X dL_acts_427 8 rfl ?_
            refine kw_aload_n X dL_acts_429 rfl 0 rfl ?_
            refine kw_iload X dL_acts_430 4 rfl ?_
            refine kw_iconst X dL_acts_432 ci_0 ?_
            obtain ⟨b274, hx274, hF⟩ := ob1_ex hF
            refine kb_ap X (r := .int b274) (As := [.int (f_L_low p3 8), .int 0]) (st := [.int b3]) (cm_stand l D cI cC cR h0 h1 t0 t1 a b d ah w254 (f_L_low p3 8) 0 Z b274 hx274) vl_L_24 yv_X6_stand ⟨Nat.le_of_ble_eq_true rfl, Nat.le_of_ble_eq_true rfl⟩ ⟨rfl, rfl⟩ ⟨Nat.le_of_ble_eq_true rfl, Nat.le_of_ble_eq_true rfl⟩ 0 0 rfl bO_0 rfl rfl rfl (Nat.le_of_ble_eq_true rfl) dL_acts_433 ?_
            refine kw_icmp_lt X 443 dL_acts_436 (by decide) (fun q275 => ?_) (fun q275 => ?_)
            · replace hF := (if_pos q275).symm.trans hF
              refine kw_iconst X dL_acts_443 ci_0 ?_
              refine kw_goto X 551 dL_acts_444 (by decide) ?_
              obtain ⟨rfl, rfl⟩ := si2 hF
              refine kw_widen (n' := 2) (z' := 72) (by decide) (by decide) ?_
              refine kb_first ?_
              exact hret _ _ rfl dL_acts_551
            · replace hF := (if_neg q275).symm.trans hF
              refine kw_iconst X dL_acts_439 ci_1 ?_
              refine kw_goto X 551 dL_acts_440 (by decide) ?_
              obtain ⟨rfl, rfl⟩ := si2 hF
              refine kw_widen (n' := 2) (z' := 72) (by decide) (by decide) ?_
              refine kb_first ?_
              exact hret _ _ rfl dL_acts_551
        · replace hF := (if_pos q255).symm.trans hF
          refine kw_iload X dL_acts_400 11 rfl ?_
          refine kw_bipush X dL_acts_402 cb_m2 ?_
          refine kw_icmp_ne X 418 dL_acts_404 (by decide) (fun q276 => ?_) (fun q276 => ?_)
          · replace hF := (if_neg q276).symm.trans hF
            refine kw_iconst X dL_acts_418 ci_0 ?_
            obtain ⟨rfl, rfl⟩ := si2 hF
            refine kw_widen (n' := 2) (z' := 72) (by decide) (by decide) ?_
            refine kb_first ?_
            exact hret _ _ rfl dL_acts_419
          · replace hF := (if_pos q276).symm.trans hF
            refine kw_iload X dL_acts_407 10 rfl ?_
            refine kw_bipush X dL_acts_409 cb_m2 ?_
            refine kw_icmp_ne X 418 dL_acts_411 (by decide) (fun q277 => ?_) (fun q277 => ?_)
            · replace hF := (if_neg q277).symm.trans hF
              refine kw_iconst X dL_acts_418 ci_0 ?_
              obtain ⟨rfl, rfl⟩ := si2 hF
              refine kw_widen (n' := 2) (z' := 72) (by decide) (by decide) ?_
              refine kb_first ?_
              exact hret _ _ rfl dL_acts_419
            · replace hF := (if_pos q277).symm.trans hF
              refine kw_iconst X dL_acts_414 ci_1 ?_
              refine kw_goto X 419 dL_acts_415 (by decide) ?_
              obtain ⟨rfl, rfl⟩ := si2 hF
              refine kw_widen (n' := 2) (z' := 72) (by decide) (by decide) ?_
              refine kb_first ?_
              exact hret _ _ rfl dL_acts_419
    · replace hF := (if_pos q5).symm.trans hF
      refine kw_aload_n X dL_acts_212 rfl 0 rfl ?_
      refine kw_iload X dL_acts_213 4 rfl ?_
      refine kw_iconst X dL_acts_215 ci_3 ?_
      obtain ⟨b278, hx278, hF⟩ := ob1_ex hF
      refine kb_ap X (r := .int b278) (As := [.int (f_L_low p3 8), .int 3]) (st := []) (cm_stand l D cI cC cR h0 h1 t0 t1 a b d ah v (f_L_low p3 8) 3 Z b278 hx278) vl_L_24 yv_X6_stand ⟨Nat.le_of_ble_eq_true rfl, Nat.le_of_ble_eq_true rfl⟩ ⟨rfl, rfl⟩ ⟨Nat.le_of_ble_eq_true rfl, Nat.le_of_ble_eq_true rfl⟩ 0 0 rfl bO_0 rfl rfl rfl (Nat.le_of_ble_eq_true rfl) dL_acts_216 ?_
      refine kw_istore (lo' := [(0, .ref h0), (1, .int p2), (2, .int p3), (3, .int (f_L_low p2 16)), (4, .int (f_L_low p3 8)), (5, .int (f_L_low (p3 >>> ((3 : Int32) &&& 31)) 12)), (6, .int b1), (7, .int b2), (8, .int b3), (9, .int b278)]) X dL_acts_219 (by decide) [1, 2, 3, 4, 5, 6, 7, 8, 9, 0] rfl ?_
      refine kw_aload_n X dL_acts_221 rfl 0 rfl ?_
      refine kw_iload X dL_acts_222 5 rfl ?_
      refine kw_iconst X dL_acts_224 ci_0 ?_
      obtain ⟨b279, hx279, hF⟩ := ob1_ex hF
      refine kb_ap X (r := .int b279) (As := [.int (f_L_low (p3 >>> ((3 : Int32) &&& 31)) 12), .int 0]) (st := []) (cm_person l D cI cC cR h0 h1 t0 t1 a b d ah v (f_L_low (p3 >>> ((3 : Int32) &&& 31)) 12) 0 Z b279 hx279) vl_L_21 yv_X6_person ⟨Nat.le_of_ble_eq_true rfl, Nat.le_of_ble_eq_true rfl⟩ ⟨rfl, rfl⟩ ⟨Nat.le_of_ble_eq_true rfl, Nat.le_of_ble_eq_true rfl⟩ 0 0 rfl bO_0 rfl rfl rfl (Nat.le_of_ble_eq_true rfl) dL_acts_225 ?_
      refine kw_istore (lo' := [(0, .ref h0), (1, .int p2), (2, .int p3), (3, .int (f_L_low p2 16)), (4, .int (f_L_low p3 8)), (5, .int (f_L_low (p3 >>> ((3 : Int32) &&& 31)) 12)), (6, .int b1), (7, .int b2), (8, .int b3), (9, .int b278), (10, .int b279)]) X dL_acts_228 (by decide) [1, 2, 3, 4, 5, 6, 7, 8, 9, 10, 0] rfl ?_
      refine kw_iload X dL_acts_230 9 rfl ?_
      refine kw_bipush X dL_acts_232 cb_m9 ?_
      obtain ⟨x285, hx286, hF⟩ := ob1_ex hF
      have J : KW Γ 0 0 (wj [bO cI cC cR h0 h1 t0 t1 a b d ah v]) [(0, .ref h0), (4, .int (f_L_low p3 8)), (5, .int (f_L_low (p3 >>> ((3 : Int32) &&& 31)) 12)), (7, .int b2), (9, .int b278), (10, .int b279)] 261 [.int x285] := by
        refine kw_istore (lo' := [(0, .ref h0), (4, .int (f_L_low p3 8)), (5, .int (f_L_low (p3 >>> ((3 : Int32) &&& 31)) 12)), (7, .int b2), (9, .int b278), (10, .int b279), (11, .int x285)]) X dL_acts_261 (by decide) [1, 2, 3, 4, 5, 6, 0] rfl ?_
        refine kw_aload_n X dL_acts_263 rfl 0 rfl ?_
        refine kw_iload X dL_acts_264 2 rfl ?_
        refine kw_iload X dL_acts_266 1 rfl ?_
        obtain ⟨b287, w288, hx288, hF⟩ := ob2_ex hF
        refine kb_aei X (r := .int b287) (As := [.int (f_L_low (p3 >>> ((3 : Int32) &&& 31)) 12), .int (f_L_low p3 8)]) (st := []) (bs' := [bO cI cC cR h0 h1 t0 t1 a b d ah w288]) E (cm_borrow l D cI cC cR h0 h1 t0 t1 a b d ah v (f_L_low (p3 >>> ((3 : Int32) &&& 31)) 12) (f_L_low p3 8) Z b287 w288 hx288) vl_L_47 yv_X6_borrow ⟨Nat.le_of_ble_eq_true rfl, Nat.le_of_ble_eq_true rfl⟩ ⟨rfl, rfl⟩ ⟨Nat.le_of_ble_eq_true rfl, Nat.le_of_ble_eq_true rfl⟩ 0 0 rfl bO_0 rfl rfl rfl (Nat.le_of_ble_eq_true rfl) dL_acts_268 ((bO cI cC cR h0 h1 t0 t1 a b d ah v).map (·.1)) bO_same rfl rfl ?_
        refine kw_istore (lo' := [(0, .ref h0), (4, .int (f_L_low p3 8)), (5, .int (f_L_low (p3 >>> ((3 : Int32) &&& 31)) 12)), (7, .int b2), (9, .int b278), (10, .int b279), (11, .int x285), (12, .int b287)]) X dL_acts_271 (by decide) [1, 2, 3, 4, 5, 6, 7, 0] rfl ?_
        refine kw_iload X dL_acts_273 6 rfl ?_
        refine kw_if_eq X 334 dL_acts_275 (by decide) (fun q289 => ?_) (fun q289 => ?_)
        · replace hF := (if_pos q289).symm.trans hF
          refine kw_iload X dL_acts_334 7 rfl ?_
          refine kw_bipush X dL_acts_336 cb_m2 ?_
          refine kw_icmp_ne X 356 dL_acts_338 (by decide) (fun q290 => ?_) (fun q290 => ?_)
          · replace hF := (if_neg q290).symm.trans hF
            refine kw_iconst X dL_acts_356 ci_0 ?_
            obtain ⟨rfl, rfl⟩ := si2 hF
            refine kw_widen (n' := 2) (z' := 72) (by decide) (by decide) ?_
            refine kb_first ?_
            exact hret _ _ rfl dL_acts_357
          · replace hF := (if_pos q290).symm.trans hF
            refine kw_aload_n X dL_acts_341 rfl 0 rfl ?_
            refine kw_bipush X dL_acts_342 cb_8 ?_
            obtain ⟨b291, hx291, hF⟩ := ob1_ex hF
            refine kb_ap X (r := .int b291) (As := [.int 8]) (st := []) (cm_count l D cI cC cR h0 h1 t0 t1 a b d ah w288 8 Z b291 hx291) vl_L_9 yv_X6_count ⟨Nat.le_of_ble_eq_true rfl, Nat.le_of_ble_eq_true rfl⟩ ⟨rfl, rfl⟩ ⟨Nat.le_of_ble_eq_true rfl, Nat.le_of_ble_eq_true rfl⟩ 0 0 rfl bO_0 rfl rfl rfl (Nat.le_of_ble_eq_true rfl) dL_acts_344 ?_
            refine kw_iload X dL_acts_347 3 rfl ?_
            refine kw_icmp_ne X 356 dL_acts_349 (by decide) (fun q292 => ?_) (fun q292 => ?_)
            · replace hF := (if_neg q292).symm.trans hF
              refine kw_iconst X dL_acts_356 ci_0 ?_
              obtain ⟨rfl, rfl⟩ := si2 hF
              refine kw_widen (n' := 2) (z' := 72) (by decide) (by decide) ?_
              refine kb_first ?_
              exact hret _ _ rfl dL_acts_357
            · replace hF := (if_pos q292).symm.trans hF
              refine kw_iconst X dL_acts_352 ci_1 ?_
              refine kw_goto X 357 dL_acts_353 (by decide) ?_
              obtain ⟨rfl, rfl⟩ := si2 hF
              refine kw_widen (n' := 2) (z' := 72) (by decide) (by decide) ?_
              refine kb_first ?_
              exact hret _ _ rfl dL_acts_357
        · replace hF := (if_neg q289).symm.trans hF
          refine kw_iload X dL_acts_278 7 rfl ?_
          refine kw_iload X dL_acts_280 4 rfl ?_
          refine kw_icmp_ne X 330 dL_acts_282 (by decide) (fun q293 => ?_) (fun q293 => ?_)
          · replace hF := (if_neg q293).symm.trans hF
            refine kw_iconst X dL_acts_330 ci_0 ?_
            refine kw_goto X 357 dL_acts_331 (by decide) ?_
            obtain ⟨rfl, rfl⟩ := si2 hF
            refine kw_widen (n' := 2) (z' := 72) (by decide) (by decide) ?_
            refine kb_first ?_
            exact hret _ _ rfl dL_acts_357
          · replace hF := (if_pos q293).symm.trans hF
            refine kw_aload_n X dL_acts_285 rfl 0 rfl ?_
            refine kw_iload X dL_acts_286 2 rfl ?_
            refine kw_iconst X dL_acts_288 ci_1 ?_
            obtain ⟨b294, hx294, hF⟩ := ob1_ex hF
            refine kb_ap X (r := .int b294) (As := [.int (f_L_low (p3 >>> ((3 : Int32) &&& 31)) 12), .int 1]) (st := []) (cm_person l D cI cC cR h0 h1 t0 t1 a b d ah w288 (f_L_low (p3 >>> ((3 : Int32) &&& 31)) 12) 1 Z b294 hx294) vl_L_21 yv_X6_person ⟨Nat.le_of_ble_eq_true rfl, Nat.le_of_ble_eq_true rfl⟩ ⟨rfl, rfl⟩ ⟨Nat.le_of_ble_eq_true rfl, Nat.le_of_ble_eq_true rfl⟩ 0 0 rfl bO_0 rfl rfl rfl (Nat.le_of_ble_eq_true rfl) dL_acts_289 ?_
            refine kw_iload X dL_acts_292 4 rfl ?_
            refine kw_icmp_ne X 330 dL_acts_294 (by decide) (fun q295 => ?_) (fun q295 => ?_)
            · replace hF := (if_neg q295).symm.trans hF
              refine kw_iconst X dL_acts_330 ci_0 ?_
              refine kw_goto X 357 dL_acts_331 (by decide) ?_
              obtain ⟨rfl, rfl⟩ := si2 hF
              refine kw_widen (n' := 2) (z' := 72) (by decide) (by decide) ?_
              refine kb_first ?_
              exact hret _ _ rfl dL_acts_357
            · replace hF := (if_pos q295).symm.trans hF
              refine kw_aload_n X dL_acts_297 rfl 0 rfl ?_
              refine kw_iload X dL_acts_298 2 rfl ?_
              refine kw_iconst X dL_acts_300 ci_0 ?_
              obtain ⟨b296, hx296, hF⟩ := ob1_ex hF
              refine kb_ap X (r := .int b296) (As := [.int (f_L_low (p3 >>> ((3 : Int32) &&& 31)) 12), .int 0]) (st := []) (cm_person l D cI cC cR h0 h1 t0 t1 a b d ah w288 (f_L_low (p3 >>> ((3 : Int32) &&& 31)) 12) 0 Z b296 hx296) vl_L_21 yv_X6_person ⟨Nat.le_of_ble_eq_true rfl, Nat.le_of_ble_eq_true rfl⟩ ⟨rfl, rfl⟩ ⟨Nat.le_of_ble_eq_true rfl, Nat.le_of_ble_eq_true rfl⟩ 0 0 rfl bO_0 rfl rfl rfl (Nat.le_of_ble_eq_true rfl) dL_acts_301 ?_
              refine kw_iload X dL_acts_304 5 rfl ?_
              refine kw_bipush X dL_acts_306 cb_10 ?_
              refine kw_isub X dL_acts_308 ?_
              refine kw_icmp_ne X 330 dL_acts_309 (by decide) (fun q297 => ?_) (fun q297 => ?_)
              · replace hF := (if_neg q297).symm.trans hF
                refine kw_iconst X dL_acts_330 ci_0 ?_
                refine kw_goto X 357 dL_acts_331 (by decide) ?_
                obtain ⟨rfl, rfl⟩ := si2 hF
                refine kw_widen (n' := 2) (z' := 72) (by decide) (by decide) ?_
                refine kb_first ?_
                exact hret _ _ rfl dL_acts_357
              · replace hF := (if_pos q297).symm.trans hF
                refine kw_aload_n X dL_acts_312 rfl 0 rfl ?_
                refine kw_bipush X dL_acts_313 cb_8 ?_
                obtain ⟨b298, hx298, hF⟩ := ob1_ex hF
                refine kb_ap X (r := .int b298) (As := [.int 8]) (st := []) (cm_count l D cI cC cR h0 h1 t0 t1 a b d ah w288 8 Z b298 hx298) vl_L_9 yv_X6_count ⟨Nat.le_of_ble_eq_true rfl, Nat.le_of_ble_eq_true rfl⟩ ⟨rfl, rfl⟩ ⟨Nat.le_of_ble_eq_true rfl, Nat.le_of_ble_eq_true rfl⟩ 0 0 rfl bO_0 rfl rfl rfl (Nat.le_of_ble_eq_true rfl) dL_acts_315 ?_
                refine kw_iload X dL_acts_318 3 rfl ?_
                refine kw_bipush X dL_acts_320 cb_10 ?_
                refine kw_iadd X dL_acts_322 ?_
                refine kw_icmp_ne X 330 dL_acts_323 (by decide) (fun q299 => ?_) (fun q299 => ?_)
                · replace hF := (if_neg q299).symm.trans hF
                  refine kw_iconst X dL_acts_330 ci_0 ?_
                  refine kw_goto X 357 dL_acts_331 (by decide) ?_
                  obtain ⟨rfl, rfl⟩ := si2 hF
                  refine kw_widen (n' := 2) (z' := 72) (by decide) (by decide) ?_
                  refine kb_first ?_
                  exact hret _ _ rfl dL_acts_357
                · replace hF := (if_pos q299).symm.trans hF
                  refine kw_iconst X dL_acts_326 ci_1 ?_
                  refine kw_goto X 357 dL_acts_327 (by decide) ?_
                  obtain ⟨rfl, rfl⟩ := si2 hF
                  refine kw_widen (n' := 2) (z' := 72) (by decide) (by decide) ?_
                  refine kb_first ?_
                  exact hret _ _ rfl dL_acts_357
      replace hF := hx286
      refine kw_icmp_eq X 260 dL_acts_234 (by decide) (fun q280 => ?_) (fun q280 => ?_)
      · replace hF := (if_pos q280).symm.trans hF
        refine kw_iconst X dL_acts_260 ci_0 ?_
        refine kw_loc (lo' := [(0, .ref h0), (4, .int (f_L_low p3 8)), (5, .int (f_L_low (p3 >>> ((3 : Int32) &&& 31)) 12)), (7, .int b2), (9, .int b278), (10, .int b279)]) [0, 4, 5, 7, 9, 10] rfl ?_
        obtain rfl := si1 hF
        exact J
      · replace hF := (if_neg q280).symm.trans hF
        refine kw_iload X dL_acts_237 10 rfl ?_
        refine kw_bipush X dL_acts_239 cb_9 ?_
        refine kw_icmp_le X 260 dL_acts_241 (by decide) (fun q300 => ?_) (fun q300 => ?_)
        · replace hF := (if_neg q300).symm.trans hF
          refine kw_iconst X dL_acts_260 ci_0 ?_
          refine kw_loc (lo' := [(0, .ref h0), (4, .int (f_L_low p3 8)), (5, .int (f_L_low (p3 >>> ((3 : Int32) &&& 31)) 12)), (7, .int b2), (9, .int b278), (10, .int b279)]) [0, 4, 5, 7, 9, 10] rfl ?_
          obtain rfl := si1 hF
          exact J
        · replace hF := (if_pos q300).symm.trans hF
          refine kw_aload_n X dL_acts_244 rfl 0 rfl ?_
          refine kw_iload X dL_acts_245 5 rfl ?_
          refine kw_iconst X dL_acts_247 ci_1 ?_
          obtain ⟨b301, hx301, hF⟩ := ob1_ex hF
          refine kb_ap X (r := .int b301) (As := [.int (f_L_low (p3 >>> ((3 : Int32) &&& 31)) 12), .int 1]) (st := []) (cm_person l D cI cC cR h0 h1 t0 t1 a b d ah v (f_L_low (p3 >>> ((3 : Int32) &&& 31)) 12) 1 Z b301 hx301) vl_L_21 yv_X6_person ⟨Nat.le_of_ble_eq_true rfl, Nat.le_of_ble_eq_true rfl⟩ ⟨rfl, rfl⟩ ⟨Nat.le_of_ble_eq_true rfl, Nat.le_of_ble_eq_true rfl⟩ 0 0 rfl bO_0 rfl rfl rfl (Nat.le_of_ble_eq_true rfl) dL_acts_248 ?_
          refine kw_bipush X dL_acts_251 cb_m9 ?_
          refine kw_icmp_ne X 260 dL_acts_253 (by decide) (fun q302 => ?_) (fun q302 => ?_)
          · replace hF := (if_neg q302).symm.trans hF
            refine kw_iconst X dL_acts_260 ci_0 ?_
            refine kw_loc (lo' := [(0, .ref h0), (4, .int (f_L_low p3 8)), (5, .int (f_L_low (p3 >>> ((3 : Int32) &&& 31)) 12)), (7, .int b2), (9, .int b278), (10, .int b279)]) [0, 4, 5, 7, 9, 10] rfl ?_
            obtain rfl := si1 hF
            exact J
          · replace hF := (if_pos q302).symm.trans hF
            refine kw_iconst X dL_acts_256 ci_1 ?_
            refine kw_goto X 261 dL_acts_257 (by decide) ?_
            refine kw_loc (lo' := [(0, .ref h0), (4, .int (f_L_low p3 8)), (5, .int (f_L_low (p3 >>> ((3 : Int32) &&& 31)) 12)), (7, .int b2), (9, .int b278), (10, .int b279)]) [0, 4, 5, 7, 9, 10] rfl ?_
            obtain rfl := si1 hF
            exact J
  · replace hF := (if_pos q4).symm.trans hF
    refine kw_iconst X dL_acts_54 ci_1 ?_
    refine kw_iload_n X dL_acts_55 rfl 2 rfl ?_
    refine kw_bipush X dL_acts_56 cb_7 ?_
    refine kw_ishr X dL_acts_58 ?_
    refine kw_bipush X dL_acts_59 cb_6 ?_
    refine kw_sp X (r := .int (f_L_low (p3 >>> ((7 : Int32) &&& 31)) 6)) (As := [.int (p3 >>> ((7 : Int32) &&& 31)), .int 6]) (st := [.int 1]) (c_L_low l D cI cC cR (p3 >>> ((7 : Int32) &&& 31)) 6 (by decide)) vl_L_41 yv_L_low ⟨Nat.le_of_ble_eq_true rfl, Nat.le_of_ble_eq_true rfl⟩ ⟨rfl, rfl⟩ ⟨Nat.le_of_ble_eq_true rfl, Nat.le_of_ble_eq_true rfl⟩ [] rfl rfl rfl rfl (Nat.le_of_ble_eq_true rfl) dL_acts_61 ?_
    refine kw_iadd X dL_acts_64 ?_
    refine kw_istore (lo' := [(0, .ref h0), (1, .int p2), (2, .int p3), (3, .int (f_L_low p2 16)), (4, .int (f_L_low p3 8)), (5, .int (f_L_low (p3 >>> ((3 : Int32) &&& 31)) 12)), (6, .int b1), (7, .int b2), (8, .int b3), (9, .int (1 + (f_L_low (p3 >>> ((7 : Int32) &&& 31)) 6)))]) X dL_acts_65 (by decide) [1, 2, 3, 4, 5, 6, 7, 8, 9, 0] rfl ?_
    refine kw_aload_n X dL_acts_67 rfl 0 rfl ?_
    refine kw_iload X dL_acts_68 4 rfl ?_
    refine kw_iload X dL_acts_70 9 rfl ?_
    obtain ⟨b303, w304, hx304, hF⟩ := ob2_ex hF
    refine kb_aei X (r := .int b303) (As := [.int (f_L_low p3 8), .int (1 + (f_L_low (p3 >>> ((7 : Int32) &&& 31)) 6))]) (st := []) (bs' := [bO cI cC cR h0 h1 t0 t1 a b d ah w304]) E (cm_buy l D cI cC cR h0 h1 t0 t1 a b d ah v (f_L_low p3 8) (1 + (f_L_low (p3 >>> ((7 : Int32) &&& 31)) 6)) Z b303 w304 hx304) vl_L_44 yv_X6_buy ⟨Nat.le_of_ble_eq_true rfl, Nat.le_of_ble_eq_true rfl⟩ ⟨rfl, rfl⟩ ⟨Nat.le_of_ble_eq_true rfl, Nat.le_of_ble_eq_true rfl⟩ 0 0 rfl bO_0 rfl rfl rfl (Nat.le_of_ble_eq_true rfl) dL_acts_72 ((bO cI cC cR h0 h1 t0 t1 a b d ah v).map (·.1)) bO_same rfl rfl ?_
    refine kw_istore (lo' := [(0, .ref h0), (1, .int p2), (2, .int p3), (3, .int (f_L_low p2 16)), (4, .int (f_L_low p3 8)), (5, .int (f_L_low (p3 >>> ((3 : Int32) &&& 31)) 12)), (6, .int b1), (7, .int b2), (8, .int b3), (9, .int (1 + (f_L_low (p3 >>> ((7 : Int32) &&& 31)) 6))), (10, .int b303)]) X dL_acts_75 (by decide) [1, 2, 3, 4, 5, 6, 7, 8, 9, 10, 0] rfl ?_
    refine kw_iload X dL_acts_77 10 rfl ?_
    refine kw_bipush X dL_acts_79 cb_m2 ?_
    refine kw_icmp_ne X 110 dL_acts_81 (by decide) (fun q305 => ?_) (fun q305 => ?_)
    · replace hF := (if_neg q305).symm.trans hF
      refine kw_iload X dL_acts_110 10 rfl ?_
      refine kw_bipush X dL_acts_112 cb_m3 ?_
      refine kw_icmp_ne X 150 dL_acts_114 (by decide) (fun q306 => ?_) (fun q306 => ?_)
      · replace hF := (if_neg q306).symm.trans hF
        refine kw_iload X dL_acts_150 10 rfl ?_
        refine kw_iload X dL_acts_152 6 rfl ?_
        refine kw_icmp_ne X 205 dL_acts_154 (by decide) (fun q307 => ?_) (fun q307 => ?_)
        · replace hF := (if_neg q307).symm.trans hF
          refine kw_iconst X dL_acts_205 ci_0 ?_
          obtain ⟨rfl, rfl⟩ := si2 hF
          refine kw_widen (n' := 2) (z' := 72) (by decide) (by decide) ?_
          refine kb_first ?_
          exact hret _ _ rfl dL_acts_206
        · replace hF := (if_pos q307).symm.trans hF
          refine kw_aload_n X dL_acts_157 rfl 0 rfl ?_
          refine kw_iconst X dL_acts_158 ci_1 ?_
          obtain ⟨b308, hx308, hF⟩ := ob1_ex hF
          refine kb_ap X (r := .int b308) (As := [.int 1]) (st := []) (cm_count l D cI cC cR h0 h1 t0 t1 a b d ah w304 1 Z b308 hx308) vl_L_9 yv_X6_count ⟨Nat.le_of_ble_eq_true rfl, Nat.le_of_ble_eq_true rfl⟩ ⟨rfl, rfl⟩ ⟨Nat.le_of_ble_eq_true rfl, Nat.le_of_ble_eq_true rfl⟩ 0 0 rfl bO_0 rfl rfl rfl (Nat.le_of_ble_eq_true rfl) dL_acts_159 ?_
          refine kw_iload X dL_acts_162 6 rfl ?_
          refine kw_iload X dL_acts_164 9 rfl ?_
          refine kw_iadd X dL_acts_166 ?_
          refine kw_icmp_ne X 205 dL_acts_167 (by decide) (fun q309 => ?_) (fun q309 => ?_)
          · replace hF := (if_neg q309).symm.trans hF
            refine kw_iconst X dL_acts_205 ci_0 ?_
            obtain ⟨rfl, rfl⟩ := si2 hF
            refine kw_widen (n' := 2) (z' := 72) (by decide) (by decide) ?_
            refine kb_first ?_
            exact hret _ _ rfl dL_acts_206
          · replace hF := (if_pos q309).symm.trans hF
            refine kw_aload_n X dL_acts_170 rfl 0 rfl ?_
            refine kw_bipush X dL_acts_171 cb_8 ?_
            obtain ⟨b310, hx310, hF⟩ := ob1_ex hF
            refine kb_ap X (r := .int b310) (As := [.int 8]) (st := []) (cm_count l D cI cC cR h0 h1 t0 t1 a b d ah w304 8 Z b310 hx310) vl_L_9 yv_X6_count ⟨Nat.le_of_ble_eq_true rfl, Nat.le_of_ble_eq_true rfl⟩ ⟨rfl, rfl⟩ ⟨Nat.le_of_ble_eq_true rfl, Nat.le_of_ble_eq_true rfl⟩ 0 0 rfl bO_0 rfl rfl rfl (Nat.le_of_ble_eq_true rfl) dL_acts_173 ?_
            refine kw_iload X dL_acts_176 7 rfl ?_
            refine kw_iconst X dL_acts_178 ci_5 ?_
            refine kw_iload X dL_acts_179 9 rfl ?_
            refine kw_imul X dL_acts_181 ?_
            refine kw_isub X dL_acts_182 ?_
            refine kw_icmp_ne X 205 dL_acts_183 (by decide) (fun q311 => ?_) (fun q311 => ?_)
            · replace hF := (if_neg q311).symm.trans hF
              refine kw_iconst X dL_acts_205 ci_0 ?_
              obtain ⟨rfl, rfl⟩ := si2 hF
              refine kw_widen (n' := 2) (z' := 72) (by decide) (by decide) ?_
              refine kb_first ?_
              exact hret _ _ rfl dL_acts_206
            · replace hF := (if_pos q311).symm.trans hF
              refine kw_aload_n X dL_acts_186 rfl 0 rfl ?_
              refine kw_iload X dL_acts_187 4 rfl ?_
              refine kw_iconst X dL_acts_189 ci_1 ?_
              obtain ⟨b312, hx312, hF⟩ := ob1_ex hF
              refine kb_ap X (r := .int b312) (As := [.int (f_L_low p3 8), .int 1]) (st := []) (cm_stand l D cI cC cR h0 h1 t0 t1 a b d ah w304 (f_L_low p3 8) 1 Z b312 hx312) vl_L_24 yv_X6_stand ⟨Nat.le_of_ble_eq_true rfl, Nat.le_of_ble_eq_true rfl⟩ ⟨rfl, rfl⟩ ⟨Nat.le_of_ble_eq_true rfl, Nat.le_of_ble_eq_true rfl⟩ 0 0 rfl bO_0 rfl rfl rfl (Nat.le_of_ble_eq_true rfl) dL_acts_190 ?_
              refine kw_iload X dL_acts_193 8 rfl ?_
              refine kw_iload X dL_acts_195 9 rfl ?_
              refine kw_iadd X dL_acts_197 ?_
              refine kw_icmp_ne X 205 dL_acts_198 (by decide) (fun q313 => ?_) (fun q313 => ?_)
              · replace hF := (if_neg q313).symm.trans hF
                refine kw_iconst X dL_acts_205 ci_0 ?_
                obtain ⟨rfl, rfl⟩ := si2 hF
                refine kw_widen (n' := 2) (z' := 72) (by decide) (by decide) ?_
                refine kb_first ?_
                exact hret _ _ rfl dL_acts_206
              · replace hF := (if_pos q313).symm.trans hF
                refine kw_iconst X dL_acts_201 ci_1 ?_
                refine kw_goto X 206 dL_acts_202 (by decide) ?_
                obtain ⟨rfl, rfl⟩ := si2 hF
                refine kw_widen (n' := 2) (z' := 72) (by decide) (by decide) ?_
                refine kb_first ?_
                exact hret _ _ rfl dL_acts_206
      · replace hF := (if_pos q306).symm.trans hF
        refine kw_iload X dL_acts_117 6 rfl ?_
        refine kw_iload X dL_acts_119 9 rfl ?_
        refine kw_iadd X dL_acts_121 ?_
        refine kw_bipush X dL_acts_122 cb_60 ?_
        refine kw_icmp_gt X 142 dL_acts_124 (by decide) (fun q314 => ?_) (fun q314 => ?_)
        · replace hF := (if_pos q314).symm.trans hF
          refine kw_iconst X dL_acts_142 ci_1 ?_
          refine kw_goto X 206 dL_acts_143 (by decide) ?_
          obtain ⟨rfl, rfl⟩ := si2 hF
          refine kw_widen (n' := 2) (z' := 72) (by decide) (by decide) ?_
          refine kb_first ?_
          exact hret _ _ rfl dL_acts_206
        · replace hF := (if_neg q314).symm.trans hF
          refine kw_iload X dL_acts_127 8 rfl ?_
          refine kw_iload X dL_acts_129 9 rfl ?_
          refine kw_iadd X dL_acts_131 ?_
          refine kw_aload_n X dL_acts_132 rfl 0 rfl ?_
          refine kw_iload X dL_acts_133 4 rfl ?_
          refine kw_iconst X dL_acts_135 ci_0 ?_
          obtain ⟨b315, hx315, hF⟩ := ob1_ex hF
          refine kb_ap X (r := .int b315) (As := [.int (f_L_low p3 8), .int 0]) (st := [.int (b3 + (1 + (f_L_low (p3 >>> ((7 : Int32) &&& 31)) 6)))]) (cm_stand l D cI cC cR h0 h1 t0 t1 a b d ah w304 (f_L_low p3 8) 0 Z b315 hx315) vl_L_24 yv_X6_stand ⟨Nat.le_of_ble_eq_true rfl, Nat.le_of_ble_eq_true rfl⟩ ⟨rfl, rfl⟩ ⟨Nat.le_of_ble_eq_true rfl, Nat.le_of_ble_eq_true rfl⟩ 0 0 rfl bO_0 rfl rfl rfl (Nat.le_of_ble_eq_true rfl) dL_acts_136 ?_
          refine kw_icmp_le X 146 dL_acts_139 (by decide) (fun q316 => ?_) (fun q316 => ?_)
          · replace hF := (if_neg q316).symm.trans hF
            refine kw_iconst X dL_acts_146 ci_0 ?_
            refine kw_goto X 206 dL_acts_147 (by decide) ?_
            obtain ⟨rfl, rfl⟩ := si2 hF
            refine kw_widen (n' := 2) (z' := 72) (by decide) (by decide) ?_
            refine kb_first ?_
            exact hret _ _ rfl dL_acts_206
          · replace hF := (if_pos q316).symm.trans hF
            refine kw_iconst X dL_acts_142 ci_1 ?_
            refine kw_goto X 206 dL_acts_143 (by decide) ?_
            obtain ⟨rfl, rfl⟩ := si2 hF
            refine kw_widen (n' := 2) (z' := 72) (by decide) (by decide) ?_
            refine kb_first ?_
            exact hret _ _ rfl dL_acts_206
    · replace hF := (if_pos q305).symm.trans hF
      refine kw_iload X dL_acts_84 7 rfl ?_
      refine kw_bipush X dL_acts_86 cb_10 ?_
      refine kw_aload_n X dL_acts_88 rfl 0 rfl ?_
      refine kw_iconst X dL_acts_89 ci_3 ?_
      obtain ⟨b317, hx317, hF⟩ := ob1_ex hF
      refine kb_ap X (r := .int b317) (As := [.int 3]) (st := [.int 10, .int b2]) (cm_count l D cI cC cR h0 h1 t0 t1 a b d ah w304 3 Z b317 hx317) vl_L_9 yv_X6_count ⟨Nat.le_of_ble_eq_true rfl, Nat.le_of_ble_eq_true rfl⟩ ⟨rfl, rfl⟩ ⟨Nat.le_of_ble_eq_true rfl, Nat.le_of_ble_eq_true rfl⟩ 0 0 rfl bO_0 rfl rfl rfl (Nat.le_of_ble_eq_true rfl) dL_acts_90 ?_
      refine kw_imul X dL_acts_93 ?_
      refine kw_isub X dL_acts_94 ?_
      refine kw_iconst X dL_acts_95 ci_5 ?_
      refine kw_iload X dL_acts_96 9 rfl ?_
      refine kw_imul X dL_acts_98 ?_
      refine kw_icmp_ge X 106 dL_acts_99 (by decide) (fun q318 => ?_) (fun q318 => ?_)
      · replace hF := (if_neg q318).symm.trans hF
        refine kw_iconst X dL_acts_106 ci_0 ?_
        refine kw_goto X 206 dL_acts_107 (by decide) ?_
        obtain ⟨rfl, rfl⟩ := si2 hF
        refine kw_widen (n' := 2) (z' := 72) (by decide) (by decide) ?_
        refine kb_first ?_
        exact hret _ _ rfl dL_acts_206
      · replace hF := (if_pos q318).symm.trans hF
        refine kw_iconst X dL_acts_102 ci_1 ?_
        refine kw_goto X 206 dL_acts_103 (by decide) ?_
        obtain ⟨rfl, rfl⟩ := si2 hF
        refine kw_widen (n' := 2) (z' := 72) (by decide) (by decide) ?_
        refine kb_first ?_
        exact hret _ _ rfl dL_acts_206
