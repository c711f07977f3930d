def IL (own : String) (idx : Nat) (C : String) (y : MethodName) (cy : ByteArray) (my : Nat) : Prop := (Cond.methodLink own idx y ∈ GW ∧ Cond.instanceMethod y ∈ GW ∧ Cond.initialized C ∈ GW) ∧ Cond.code y cy my none ∈ GW
theorem ci_m1 : Int32.ofInt (-1) = (-1) := by decide
theorem ci_0 : Int32.ofInt (0) = 0 := by decide
theorem ci_1 : Int32.ofInt (1) = 1 := by decide
theorem ci_2 : Int32.ofInt (2) = 2 := by decide
theorem ci_3 : Int32.ofInt (3) = 3 := by decide
theorem ci_4 : Int32.ofInt (4) = 4 := by decide
theorem ci_5 : Int32.ofInt (5) = 5 := by decide
theorem cb_m10 : (Int8.ofInt (-10)).toInt32 = (-10) := by decide
theorem cb_m9 : (Int8.ofInt (-9)).toInt32 = (-9) := by decide
theorem cb_m3 : (Int8.ofInt (-3)).toInt32 = (-3) := by decide
theorem cb_m2 : (Int8.ofInt (-2)).toInt32 = (-2) := by decide
theorem cb_6 : (Int8.ofInt (6)).toInt32 = 6 := by decide
theorem cb_7 : (Int8.ofInt (7)).toInt32 = 7 := by decide
theorem cb_8 : (Int8.ofInt (8)).toInt32 = 8 := by decide
theorem cb_9 : (Int8.ofInt (9)).toInt32 = 9 := by decide
theorem cb_10 : (Int8.ofInt (10)).toInt32 = 10 := by decide
theorem cb_11 : (Int8.ofInt (11)).toInt32 = 11 := by decide
theorem cb_12 : (Int8.ofInt (12)).toInt32 = 12 := by decide
theorem cb_13 : (Int8.ofInt (13)).toInt32 = 13 := by decide
theorem cb_14 : (Int8.ofInt (14)).toInt32 = 14 := by decide
theorem cb_16 : (Int8.ofInt (16)).toInt32 = 16 := by decide
theorem cb_20 : (Int8.ofInt (20)).toInt32 = 20 := by decide
theorem cb_22 : (Int8.ofInt (22)).toInt32 = 22 := by decide
theorem cb_23 : (Int8.ofInt (23)).toInt32 = 23 := by decide
theorem cb_24 : (Int8.ofInt (24)).toInt32 = 24 := by decide
theorem cb_30 : (Int8.ofInt (30)).toInt32 = 30 := by decide
theorem cb_31 : (Int8.ofInt (31)).toInt32 = 31 := by decide
theorem cb_32 : (Int8.ofInt (32)).toInt32 = 32 := by decide
theorem cb_40 : (Int8.ofInt (40)).toInt32 = 40 := by decide
theorem cb_50 : (Int8.ofInt (50)).toInt32 = 50 := by decide
theorem cb_60 : (Int8.ofInt (60)).toInt32 = 60 := by decide
theorem cb_64 : (Int8.ofInt (64)).toInt32 = 64 := by decide
theorem cb_80 : (Int8.ofInt (80)).toInt32 = 80 := by decide
theorem cb_99 : (Int8.ofInt (99)).toInt32 = 99 := by decide
theorem cb_100 : (Int8.ofInt (100)).toInt32 = 100 := by decide
theorem cs_500 : (Int16.ofInt (500)).toInt32 = 500 := by decide
theorem cs_580 : (Int16.ofInt (580)).toInt32 = 580 := by decide
theorem cs_2393 : (Int16.ofInt (2393)).toInt32 = 2393 := by decide
theorem cs_2647 : (Int16.ofInt (2647)).toInt32 = 2647 := by decide
theorem cn_5 : nI 5 = 5 := by decide
theorem cn_8 : nI 8 = 8 := by decide
theorem cn_12 : nI 12 = 12 := by decide
theorem cn_24 : nI 24 = 24 := by decide
theorem cn_60 : nI 60 = 60 := by decide
theorem cn_80 : nI 80 = 80 := by decide
theorem cn_328 : nI 328 = 328 := by decide
theorem cn_986 : nI 986 = 986 := by decide
theorem cn_4930 : nI 4930 = 4930 := by decide
theorem pfd_I : parseFieldDescriptor "I" = some .int := by decide +kernel
theorem pfd_Z : parseFieldDescriptor "Z" = some .boolean := by decide +kernel
theorem nw_0 : Cond.methodLinkNest RX6 11 yX3_init RX6 ∈ NWL := List.mem_of_getElem? (i := 0) rfl
theorem nw_1 : Cond.methodLinkNest RX0 11 yX5_init RX6 ∈ NWL := List.mem_of_getElem? (i := 1) rfl
theorem nw_2 : Cond.fieldLinkNest RX6 203 RX5 "spots" "LRibbedLoans$Row;" RX6 ∈ NWL := List.mem_of_getElem? (i := 2) rfl
theorem nw_3 : Cond.fieldLinkNest RX0 152 RX5 "spots" "LRibbedLoans$Row;" RX6 ∈ NWL := List.mem_of_getElem? (i := 3) rfl
theorem nw_4 : Cond.fieldLinkNest RX0 132 RX5 "wears" "LRibbedLoans$Row;" RX6 ∈ NWL := List.mem_of_getElem? (i := 4) rfl
theorem nw_5 : Cond.fieldLinkNest RX6 215 RX5 "wears" "LRibbedLoans$Row;" RX6 ∈ NWL := List.mem_of_getElem? (i := 5) rfl
theorem nw_6 : Cond.fieldLinkNest RX0 116 RX5 "lendings" "LRibbedLoans$Row;" RX6 ∈ NWL := List.mem_of_getElem? (i := 6) rfl
theorem nw_7 : Cond.fieldLinkNest RX6 221 RX5 "lendings" "LRibbedLoans$Row;" RX6 ∈ NWL := List.mem_of_getElem? (i := 7) rfl
theorem nw_8 : Cond.fieldLinkNest RX0 90 RX5 "number" "I" RX6 ∈ NWL := List.mem_of_getElem? (i := 8) rfl
theorem nw_9 : Cond.fieldLinkNest RX6 162 RX5 "number" "I" RX6 ∈ NWL := List.mem_of_getElem? (i := 9) rfl
theorem nw_10 : Cond.fieldLinkNest RX6 158 RX0 "umbrellas" "LRibbedLoans$Umbrellas;" RX6 ∈ NWL := List.mem_of_getElem? (i := 10) rfl
theorem nw_11 : Cond.fieldLinkNest RX6 224 RX0 "rooms" "LRibbedLoans$Row;" RX6 ∈ NWL := List.mem_of_getElem? (i := 11) rfl
theorem nw_12 : Cond.fieldLinkNest RX6 176 RX0 "purses" "LRibbedLoans$Row;" RX6 ∈ NWL := List.mem_of_getElem? (i := 12) rfl
theorem nw_13 : Cond.fieldLinkNest RX6 245 RX0 "showers" "LRibbedLoans$Row;" RX6 ∈ NWL := List.mem_of_getElem? (i := 13) rfl
theorem nw_14 : Cond.fieldLinkNest RX6 248 RX0 "homes" "LRibbedLoans$Row;" RX6 ∈ NWL := List.mem_of_getElem? (i := 14) rfl
theorem nw_15 : Cond.fieldLinkNest RX6 188 RX0 "paid" "LRibbedLoans$Row;" RX6 ∈ NWL := List.mem_of_getElem? (i := 15) rfl
theorem nw_16 : Cond.fieldLinkNest RX6 109 RX0 "hours" "I" RX6 ∈ NWL := List.mem_of_getElem? (i := 16) rfl
theorem nw_17 : Cond.fieldLinkNest RX6 173 RX0 "house" "I" RX6 ∈ NWL := List.mem_of_getElem? (i := 17) rfl
theorem nw_18 : Cond.fieldLinkNest RX6 185 RX0 "spent" "I" RX6 ∈ NWL := List.mem_of_getElem? (i := 18) rfl
theorem nw_19 : Cond.fieldLinkNest RX6 191 RX0 "loans" "I" RX6 ∈ NWL := List.mem_of_getElem? (i := 19) rfl
theorem nw_20 : Cond.fieldLinkNest RX6 194 RX0 "surges" "I" RX6 ∈ NWL := List.mem_of_getElem? (i := 20) rfl
theorem nw_21 : Cond.fieldLinkNest RX6 197 RX0 "rate" "I" RX6 ∈ NWL := List.mem_of_getElem? (i := 21) rfl
theorem nw_22 : Cond.fieldLinkNest RX6 30 RX3 "city" "LRibbedLoans$City;" RX6 ∈ NWL := List.mem_of_getElem? (i := 22) rfl
theorem nw_23 : Cond.methodLinkNest RX1 17 yX3_init RX6 ∈ NWL := List.mem_of_getElem? (i := 23) rfl
theorem nw_24 : Cond.fieldLinkNest RX6 120 RX1 "size" "I" RX6 ∈ NWL := List.mem_of_getElem? (i := 24) rfl
theorem nw_25 : Cond.methodLinkNest RX6 25 yX4_init RX6 ∈ NWL := List.mem_of_getElem? (i := 25) rfl
theorem nw_26 : Cond.fieldLinkNest RX6 126 RX4 "length" "I" RX6 ∈ NWL := List.mem_of_getElem? (i := 26) rfl
theorem nw_27 : Cond.methodLinkNest RX0 82 yX6_outside RX6 ∈ NWL := List.mem_of_getElem? (i := 27) rfl
theorem nw_28 : Cond.methodLinkNest RX5 47 yX6_kindOf RX6 ∈ NWL := List.mem_of_getElem? (i := 28) rfl
theorem nw_29 : Cond.methodLinkNest RX0 135 yX6_wornBy RX6 ∈ NWL := List.mem_of_getElem? (i := 29) rfl
theorem nw_30 : Cond.methodLinkNest RX0 155 yX6_kindOf RX6 ∈ NWL := List.mem_of_getElem? (i := 30) rfl
theorem pn_X0 : plainName RX0 = true := by decide +kernel
theorem pn_X1 : plainName RX1 = true := by decide +kernel
theorem pn_X2 : plainName RX2 = true := by decide +kernel
theorem pn_X3 : plainName RX3 = true := by decide +kernel
theorem pn_X4 : plainName RX4 = true := by decide +kernel
theorem pn_X5 : plainName RX5 = true := by decide +kernel
theorem pn_X6 : plainName RX6 = true := by decide +kernel
theorem vl_L_86 : IL "RibbedLoansLaw" 86 RX6 yX6_init cX6_init 1 := ⟨⟨gw_24, gw_25, gw_12⟩, gw_26⟩
theorem yv_X6_init : YV yX6_init RX6 0 := ⟨rfl, by decide +kernel, by decide +kernel, by decide +kernel⟩
theorem vl_X3_9 : IL RX3 9 RX0 yX0_init cX0_init 2 := ⟨⟨gw_38, gw_39, gw_14⟩, gw_40⟩
theorem yv_X0_init : YV yX0_init RX0 0 := ⟨rfl, by decide +kernel, by decide +kernel, by decide +kernel⟩
theorem vl_X5_11 : IL RX5 11 RX2 yX2_init cX2_init 3 := ⟨⟨gw_50, gw_51, gw_16⟩, gw_52⟩
theorem yv_X2_init : YV yX2_init RX2 2 := ⟨rfl, by decide +kernel, by decide +kernel, by decide +kernel⟩
theorem vl_X2_19 : SL RX2 19 yJ7_fill_53178 cJ7_fill_53178 4 none := ⟨⟨gw_57, gw_58, gw_16⟩, gw_59⟩
theorem yv_J7_fill_53178 : YV yJ7_fill_53178 RJ7 2 := ⟨rfl, by decide +kernel, by decide +kernel, by decide +kernel⟩
theorem vl_X0_20 : IL RX0 20 RX2 yX2_init cX2_init 3 := ⟨⟨gw_90, gw_51, gw_16⟩, gw_52⟩
theorem vl_X0_46 : VL RX0 46 RX2 yX2_put cX2_put 3 none := ⟨⟨gw_91, gw_92, gw_93, gw_16⟩, gw_94⟩
theorem yv_X2_put : YV yX2_put RX2 2 := ⟨rfl, by decide +kernel, by decide +kernel, by decide +kernel⟩
theorem vl_X6_18 : IL RX6 18 RX1 yX1_init cX1_init 2 := ⟨⟨gw_163, gw_164, gw_19⟩, gw_165⟩
theorem yv_X1_init : YV yX1_init RX1 0 := ⟨rfl, by decide +kernel, by decide +kernel, by decide +kernel⟩
theorem vl_L_44 : VL "RibbedLoansLaw" 44 RX6 yX6_buy cX6_buy 4 (some .int) := ⟨⟨gw_213, gw_214, gw_215, gw_12⟩, gw_216⟩
theorem yv_X6_buy : YV yX6_buy RX6 2 := ⟨rfl, by decide +kernel, by decide +kernel, by decide +kernel⟩
theorem vl_X6_34 : VL RX6 34 RX0 yX0_buyingError cX0_buyingError 4 (some .int) := ⟨⟨gw_217, gw_218, gw_219, gw_14⟩, gw_220⟩
theorem yv_X0_buyingError : YV yX0_buyingError RX0 2 := ⟨rfl, by decide +kernel, by decide +kernel, by decide +kernel⟩
theorem vl_X0_86 : VL RX0 86 RX0 yX0_spendable cX0_spendable 1 (some .int) := ⟨⟨gw_224, gw_226, gw_0, gw_14⟩, gw_227⟩
theorem yv_X0_spendable : YV yX0_spendable RX0 0 := ⟨rfl, by decide +kernel, by decide +kernel, by decide +kernel⟩
theorem vl_X0_68 : VL RX0 68 RX5 yX5_numberOfKind cX5_numberOfKind 4 (some .int) := ⟨⟨gw_228, gw_229, gw_230, gw_15⟩, gw_231⟩
theorem yv_X5_numberOfKind : YV yX5_numberOfKind RX5 1 := ⟨rfl, by decide +kernel, by decide +kernel, by decide +kernel⟩
theorem vl_X5_50 : VL RX5 50 RX5 yX5_numberAt cX5_numberAt 2 (some .int) := ⟨⟨gw_235, gw_236, gw_237, gw_15⟩, gw_238⟩
theorem yv_X5_numberAt : YV yX5_numberAt RX5 1 := ⟨rfl, by decide +kernel, by decide +kernel, by decide +kernel⟩
theorem vl_X5_43 : VL RX5 43 RX2 yX2_at cX2_at 2 (some .int) := ⟨⟨gw_239, gw_240, gw_241, gw_16⟩, gw_242⟩
theorem yv_X2_at : YV yX2_at RX2 1 := ⟨rfl, by decide +kernel, by decide +kernel, by decide +kernel⟩
theorem vl_X0_93 : VL RX0 93 RX0 yX0_freeAt cX0_freeAt 2 (some .int) := ⟨⟨gw_243, gw_245, gw_1, gw_14⟩, gw_246⟩
theorem yv_X0_freeAt : YV yX0_freeAt RX0 1 := ⟨rfl, by decide +kernel, by decide +kernel, by decide +kernel⟩
theorem vl_X0_72 : VL RX0 72 RX2 yX2_at cX2_at 2 (some .int) := ⟨⟨gw_247, gw_240, gw_241, gw_16⟩, gw_242⟩
theorem vl_X0_75 : VL RX0 75 RX5 yX5_numberAt cX5_numberAt 2 (some .int) := ⟨⟨gw_248, gw_236, gw_237, gw_15⟩, gw_238⟩
theorem vl_X6_40 : VL RX6 40 RX1 yX1_record cX1_record 3 none := ⟨⟨gw_249, gw_250, gw_251, gw_19⟩, gw_252⟩
theorem yv_X1_record : YV yX1_record RX1 1 := ⟨rfl, by decide +kernel, by decide +kernel, by decide +kernel⟩
theorem vl_X1_22 : VL RX1 22 RX3 yX3_copyFrom cX3_copyFrom 2 none := ⟨⟨gw_253, gw_254, gw_255, gw_13⟩, gw_256⟩
theorem yv_X3_copyFrom : YV yX3_copyFrom RX3 1 := ⟨rfl, by decide +kernel, by decide +kernel, by decide +kernel⟩
theorem vl_X3_22 : VL RX3 22 RX0 yX0_copyFrom cX0_copyFrom 2 none := ⟨⟨gw_257, gw_258, gw_259, gw_14⟩, gw_260⟩
theorem yv_X0_copyFrom : YV yX0_copyFrom RX0 1 := ⟨rfl, by decide +kernel, by decide +kernel, by decide +kernel⟩
theorem vl_X0_49 : VL RX0 49 RX5 yX5_copyFrom cX5_copyFrom 2 none := ⟨⟨gw_261, gw_262, gw_263, gw_15⟩, gw_264⟩
theorem yv_X5_copyFrom : YV yX5_copyFrom RX5 1 := ⟨rfl, by decide +kernel, by decide +kernel, by decide +kernel⟩
theorem vl_X5_29 : VL RX5 29 RX2 yX2_copyFrom cX2_copyFrom 2 none := ⟨⟨gw_265, gw_266, gw_267, gw_16⟩, gw_268⟩
theorem yv_X2_copyFrom : YV yX2_copyFrom RX2 1 := ⟨rfl, by decide +kernel, by decide +kernel, by decide +kernel⟩
theorem vl_X0_53 : VL RX0 53 RX2 yX2_copyFrom cX2_copyFrom 2 none := ⟨⟨gw_275, gw_266, gw_267, gw_16⟩, gw_268⟩
theorem vl_X6_44 : VL RX6 44 RX0 yX0_purchase cX0_purchase 5 (some .int) := ⟨⟨gw_277, gw_278, gw_279, gw_14⟩, gw_280⟩
theorem yv_X0_purchase : YV yX0_purchase RX0 2 := ⟨rfl, by decide +kernel, by decide +kernel, by decide +kernel⟩
theorem vl_X0_96 : VL RX0 96 RX5 yX5_addNew cX5_addNew 2 none := ⟨⟨gw_281, gw_282, gw_283, gw_15⟩, gw_284⟩
theorem yv_X5_addNew : YV yX5_addNew RX5 1 := ⟨rfl, by decide +kernel, by decide +kernel, by decide +kernel⟩
theorem vl_X5_37 : VL RX5 37 RX2 yX2_put cX2_put 3 none := ⟨⟨gw_285, gw_92, gw_93, gw_16⟩, gw_94⟩
theorem vl_X5_40 : VL RX5 40 RX2 yX2_add cX2_add 3 none := ⟨⟨gw_286, gw_287, gw_288, gw_16⟩, gw_289⟩
theorem yv_X2_add : YV yX2_add RX2 2 := ⟨rfl, by decide +kernel, by decide +kernel, by decide +kernel⟩
theorem vl_X0_100 : VL RX0 100 RX0 yX0_spend cX0_spend 2 none := ⟨⟨gw_290, gw_292, gw_2, gw_14⟩, gw_293⟩
theorem yv_X0_spend : YV yX0_spend RX0 1 := ⟨rfl, by decide +kernel, by decide +kernel, by decide +kernel⟩
theorem vl_L_83 : VL "RibbedLoansLaw" 83 RX6 yX6_restore cX6_restore 2 (some .int) := ⟨⟨gw_294, gw_295, gw_296, gw_12⟩, gw_297⟩
theorem yv_X6_restore : YV yX6_restore RX6 1 := ⟨rfl, by decide +kernel, by decide +kernel, by decide +kernel⟩
theorem vl_X6_101 : SL RX6 101 yX6_outside cX6_outside 3 (some .boolean) := ⟨⟨gw_298, gw_222, gw_12⟩, gw_223⟩
theorem yv_X6_outside : YV yX6_outside RX6 3 := ⟨rfl, by decide +kernel, by decide +kernel, by decide +kernel⟩
theorem vl_X6_113 : VL RX6 113 RX3 yX3_isKept cX3_isKept 2 (some .boolean) := ⟨⟨gw_299, gw_300, gw_301, gw_13⟩, gw_302⟩
theorem yv_X3_isKept : YV yX3_isKept RX3 1 := ⟨rfl, by decide +kernel, by decide +kernel, by decide +kernel⟩
theorem vl_X6_117 : VL RX6 117 RX3 yX3_bringUp cX3_bringUp 2 none := ⟨⟨gw_303, gw_304, gw_305, gw_13⟩, gw_306⟩
theorem yv_X3_bringUp : YV yX3_bringUp RX3 1 := ⟨rfl, by decide +kernel, by decide +kernel, by decide +kernel⟩
theorem vl_X3_33 : VL RX3 33 RX3 yX3_snapshot cX3_snapshot 2 (some (.object "RibbedLoans$City")) := ⟨⟨gw_307, gw_309, gw_3, gw_13⟩, gw_310⟩
theorem yv_X3_snapshot : YV yX3_snapshot RX3 1 := ⟨rfl, by decide +kernel, by decide +kernel, by decide +kernel⟩
theorem vl_L_53 : VL "RibbedLoansLaw" 53 RX6 yX6_undo cX6_undo 1 (some .int) := ⟨⟨gw_311, gw_312, gw_313, gw_12⟩, gw_314⟩
theorem yv_X6_undo : YV yX6_undo RX6 0 := ⟨rfl, by decide +kernel, by decide +kernel, by decide +kernel⟩
theorem vl_X6_123 : VL RX6 123 RX1 yX1_moveLatestTo cX1_moveLatestTo 3 none := ⟨⟨gw_315, gw_316, gw_317, gw_19⟩, gw_318⟩
theorem yv_X1_moveLatestTo : YV yX1_moveLatestTo RX1 1 := ⟨rfl, by decide +kernel, by decide +kernel, by decide +kernel⟩
theorem vl_L_94 : SL "RibbedLoansLaw" 94 yL_lot cL_lot 2 (some .int) := ⟨⟨gw_319, gw_320, gw_11⟩, gw_321⟩
theorem yv_L_lot : YV yL_lot RL 2 := ⟨rfl, by decide +kernel, by decide +kernel, by decide +kernel⟩
theorem vl_L_41 : SL "RibbedLoansLaw" 41 yL_low cL_low 2 (some .int) := ⟨⟨gw_323, gw_324, gw_11⟩, gw_325⟩
theorem yv_L_low : YV yL_low RL 2 := ⟨rfl, by decide +kernel, by decide +kernel, by decide +kernel⟩
theorem vl_L_87 : SL "RibbedLoansLaw" 87 yL_places cL_places 12 (some .boolean) := ⟨⟨gw_327, gw_328, gw_11⟩, gw_329⟩
theorem yv_L_places : YV yL_places RL 1 := ⟨rfl, by decide +kernel, by decide +kernel, by decide +kernel⟩
theorem vl_L_9 : VL "RibbedLoansLaw" 9 RX6 yX6_count cX6_count 4 (some .int) := ⟨⟨gw_330, gw_331, gw_332, gw_12⟩, gw_333⟩
theorem yv_X6_count : YV yX6_count RX6 1 := ⟨rfl, by decide +kernel, by decide +kernel, by decide +kernel⟩
theorem vl_X6_167 : VL RX6 167 RX5 yX5_numberOfKind cX5_numberOfKind 4 (some .int) := ⟨⟨gw_334, gw_229, gw_230, gw_15⟩, gw_231⟩
theorem vl_X6_170 : VL RX6 170 RX5 yX5_numberBroken cX5_numberBroken 3 (some .int) := ⟨⟨gw_335, gw_336, gw_337, gw_15⟩, gw_338⟩
theorem yv_X5_numberBroken : YV yX5_numberBroken RX5 0 := ⟨rfl, by decide +kernel, by decide +kernel, by decide +kernel⟩
theorem vl_X5_53 : VL RX5 53 RX5 yX5_isBroken cX5_isBroken 2 (some .boolean) := ⟨⟨gw_339, gw_340, gw_341, gw_15⟩, gw_342⟩
theorem yv_X5_isBroken : YV yX5_isBroken RX5 1 := ⟨rfl, by decide +kernel, by decide +kernel, by decide +kernel⟩
theorem vl_X6_180 : VL RX6 180 RX2 yX2_sum cX2_sum 6 (some .int) := ⟨⟨gw_343, gw_344, gw_345, gw_16⟩, gw_346⟩
theorem yv_X2_sum : YV yX2_sum RX2 0 := ⟨rfl, by decide +kernel, by decide +kernel, by decide +kernel⟩
theorem vl_X6_200 : VL RX6 200 RX3 yX3_numberKept cX3_numberKept 1 (some .int) := ⟨⟨gw_347, gw_348, gw_349, gw_13⟩, gw_350⟩
theorem yv_X3_numberKept : YV yX3_numberKept RX3 0 := ⟨rfl, by decide +kernel, by decide +kernel, by decide +kernel⟩
theorem vl_L_15 : VL "RibbedLoansLaw" 15 RX6 yX6_umbrella cX6_umbrella 5 (some .int) := ⟨⟨gw_351, gw_352, gw_353, gw_12⟩, gw_354⟩
theorem yv_X6_umbrella : YV yX6_umbrella RX6 2 := ⟨rfl, by decide +kernel, by decide +kernel, by decide +kernel⟩
theorem vl_X6_206 : VL RX6 206 RX2 yX2_at cX2_at 2 (some .int) := ⟨⟨gw_355, gw_240, gw_241, gw_16⟩, gw_242⟩
theorem vl_X6_209 : SL RX6 209 yX6_kindOf cX6_kindOf 1 (some .int) := ⟨⟨gw_356, gw_233, gw_12⟩, gw_234⟩
theorem yv_X6_kindOf : YV yX6_kindOf RX6 1 := ⟨rfl, by decide +kernel, by decide +kernel, by decide +kernel⟩
theorem vl_X6_212 : SL RX6 212 yX6_ownerOf cX6_ownerOf 1 (some .int) := ⟨⟨gw_357, gw_358, gw_12⟩, gw_359⟩
theorem yv_X6_ownerOf : YV yX6_ownerOf RX6 1 := ⟨rfl, by decide +kernel, by decide +kernel, by decide +kernel⟩
theorem vl_X6_218 : VL RX6 218 RX5 yX5_isBroken cX5_isBroken 2 (some .boolean) := ⟨⟨gw_360, gw_340, gw_341, gw_15⟩, gw_342⟩
theorem vl_L_21 : VL "RibbedLoansLaw" 21 RX6 yX6_person cX6_person 5 (some .int) := ⟨⟨gw_361, gw_362, gw_363, gw_12⟩, gw_364⟩
theorem yv_X6_person : YV yX6_person RX6 2 := ⟨rfl, by decide +kernel, by decide +kernel, by decide +kernel⟩
theorem vl_X6_242 : VL RX6 242 RX0 yX0_inHand cX0_inHand 2 (some .int) := ⟨⟨gw_365, gw_366, gw_367, gw_14⟩, gw_368⟩
theorem yv_X0_inHand : YV yX0_inHand RX0 1 := ⟨rfl, by decide +kernel, by decide +kernel, by decide +kernel⟩
theorem vl_X0_78 : VL RX0 78 RX5 yX5_nthAt cX5_nthAt 5 (some .int) := ⟨⟨gw_369, gw_370, gw_371, gw_15⟩, gw_372⟩
theorem yv_X5_nthAt : YV yX5_nthAt RX5 2 := ⟨rfl, by decide +kernel, by decide +kernel, by decide +kernel⟩
theorem vl_L_24 : VL "RibbedLoansLaw" 24 RX6 yX6_stand cX6_stand 4 (some .int) := ⟨⟨gw_373, gw_374, gw_375, gw_12⟩, gw_376⟩
theorem yv_X6_stand : YV yX6_stand RX6 2 := ⟨rfl, by decide +kernel, by decide +kernel, by decide +kernel⟩
theorem vl_X6_227 : VL RX6 227 RX5 yX5_numberAt cX5_numberAt 2 (some .int) := ⟨⟨gw_377, gw_236, gw_237, gw_15⟩, gw_238⟩
theorem vl_X6_230 : VL RX6 230 RX5 yX5_brokenAt cX5_brokenAt 4 (some .int) := ⟨⟨gw_378, gw_379, gw_380, gw_15⟩, gw_381⟩
theorem yv_X5_brokenAt : YV yX5_brokenAt RX5 1 := ⟨rfl, by decide +kernel, by decide +kernel, by decide +kernel⟩
theorem vl_X6_233 : VL RX6 233 RX5 yX5_bestAt cX5_bestAt 2 (some .int) := ⟨⟨gw_382, gw_383, gw_384, gw_15⟩, gw_385⟩
theorem yv_X5_bestAt : YV yX5_bestAt RX5 1 := ⟨rfl, by decide +kernel, by decide +kernel, by decide +kernel⟩
theorem vl_X5_60 : VL RX5 60 RX5 yX5_leastWornAt cX5_leastWornAt 7 (some .int) := ⟨⟨gw_386, gw_387, gw_388, gw_15⟩, gw_389⟩
theorem yv_X5_leastWornAt : YV yX5_leastWornAt RX5 3 := ⟨rfl, by decide +kernel, by decide +kernel, by decide +kernel⟩
theorem vl_X6_236 : VL RX6 236 RX5 yX5_worstAt cX5_worstAt 4 (some .int) := ⟨⟨gw_390, gw_391, gw_392, gw_15⟩, gw_393⟩
theorem yv_X5_worstAt : YV yX5_worstAt RX5 1 := ⟨rfl, by decide +kernel, by decide +kernel, by decide +kernel⟩
theorem vl_X6_239 : VL RX6 239 RX5 yX5_meanWearAt cX5_meanWearAt 5 (some .int) := ⟨⟨gw_394, gw_395, gw_396, gw_15⟩, gw_397⟩
theorem yv_X5_meanWearAt : YV yX5_meanWearAt RX5 1 := ⟨rfl, by decide +kernel, by decide +kernel, by decide +kernel⟩
theorem vl_L_91 : SL "RibbedLoansLaw" 91 yL_coins cL_coins 7 (some .boolean) := ⟨⟨gw_398, gw_399, gw_11⟩, gw_400⟩
theorem yv_L_coins : YV yL_coins RL 1 := ⟨rfl, by decide +kernel, by decide +kernel, by decide +kernel⟩
theorem vl_L_27 : VL "RibbedLoansLaw" 27 RX6 yX6_feeIn cX6_feeIn 4 (some .int) := ⟨⟨gw_401, gw_402, gw_403, gw_12⟩, gw_404⟩
theorem yv_X6_feeIn : YV yX6_feeIn RX6 3 := ⟨rfl, by decide +kernel, by decide +kernel, by decide +kernel⟩
theorem vl_X6_254 : VL RX6 254 RX0 yX0_hasOne cX0_hasOne 2 (some .boolean) := ⟨⟨gw_405, gw_406, gw_407, gw_14⟩, gw_408⟩
theorem yv_X0_hasOne : YV yX0_hasOne RX0 1 := ⟨rfl, by decide +kernel, by decide +kernel, by decide +kernel⟩
theorem vl_X6_257 : VL RX6 257 RX0 yX0_feeAfter cX0_feeAfter 7 (some .int) := ⟨⟨gw_409, gw_410, gw_411, gw_14⟩, gw_412⟩
theorem yv_X0_feeAfter : YV yX0_feeAfter RX0 3 := ⟨rfl, by decide +kernel, by decide +kernel, by decide +kernel⟩
theorem vl_X0_129 : VL RX0 129 RX0 yX0_inHand cX0_inHand 2 (some .int) := ⟨⟨gw_413, gw_366, gw_367, gw_14⟩, gw_368⟩
theorem vl_L_31 : VL "RibbedLoansLaw" 31 RX6 yX6_breaksIn cX6_breaksIn 4 (some .int) := ⟨⟨gw_419, gw_420, gw_421, gw_12⟩, gw_422⟩
theorem yv_X6_breaksIn : YV yX6_breaksIn RX6 3 := ⟨rfl, by decide +kernel, by decide +kernel, by decide +kernel⟩
theorem vl_X6_260 : VL RX6 260 RX0 yX0_hoursToBreak cX0_hoursToBreak 6 (some .int) := ⟨⟨gw_423, gw_424, gw_425, gw_14⟩, gw_426⟩
theorem yv_X0_hoursToBreak : YV yX0_hoursToBreak RX0 3 := ⟨rfl, by decide +kernel, by decide +kernel, by decide +kernel⟩
theorem vl_L_98 : SL "RibbedLoansLaw" 98 yL_acts cL_acts 18 (some .boolean) := ⟨⟨gw_427, gw_428, gw_11⟩, gw_429⟩
theorem yv_L_acts : YV yL_acts RL 3 := ⟨rfl, by decide +kernel, by decide +kernel, by decide +kernel⟩
theorem vl_L_47 : VL "RibbedLoansLaw" 47 RX6 yX6_borrow cX6_borrow 4 (some .int) := ⟨⟨gw_430, gw_431, gw_432, gw_12⟩, gw_433⟩
theorem yv_X6_borrow : YV yX6_borrow RX6 2 := ⟨rfl, by decide +kernel, by decide +kernel, by decide +kernel⟩
theorem vl_X6_53 : VL RX6 53 RX0 yX0_lendingError cX0_lendingError 4 (some .int) := ⟨⟨gw_434, gw_435, gw_436, gw_14⟩, gw_437⟩
theorem yv_X0_lendingError : YV yX0_lendingError RX0 2 := ⟨rfl, by decide +kernel, by decide +kernel, by decide +kernel⟩
theorem vl_X0_103 : VL RX0 103 RX0 yX0_wouldBorrow cX0_wouldBorrow 2 (some .boolean) := ⟨⟨gw_438, gw_440, gw_4, gw_14⟩, gw_441⟩
theorem yv_X0_wouldBorrow : YV yX0_wouldBorrow RX0 1 := ⟨rfl, by decide +kernel, by decide +kernel, by decide +kernel⟩
theorem vl_X0_107 : VL RX0 107 RX5 yX5_bestAt cX5_bestAt 2 (some .int) := ⟨⟨gw_442, gw_383, gw_384, gw_15⟩, gw_385⟩
theorem vl_X6_56 : VL RX6 56 RX0 yX0_lend cX0_lend 4 (some .int) := ⟨⟨gw_443, gw_444, gw_445, gw_14⟩, gw_446⟩
theorem yv_X0_lend : YV yX0_lend RX0 2 := ⟨rfl, by decide +kernel, by decide +kernel, by decide +kernel⟩
theorem vl_X0_110 : VL RX0 110 RX0 yX0_handOut cX0_handOut 3 none := ⟨⟨gw_447, gw_449, gw_5, gw_14⟩, gw_450⟩
theorem yv_X0_handOut : YV yX0_handOut RX0 2 := ⟨rfl, by decide +kernel, by decide +kernel, by decide +kernel⟩
theorem vl_X0_113 : VL RX0 113 RX5 yX5_move cX5_move 3 none := ⟨⟨gw_451, gw_452, gw_453, gw_15⟩, gw_454⟩
theorem yv_X5_move : YV yX5_move RX5 2 := ⟨rfl, by decide +kernel, by decide +kernel, by decide +kernel⟩
theorem vl_X0_119 : VL RX0 119 RX2 yX2_add cX2_add 3 none := ⟨⟨gw_455, gw_287, gw_288, gw_16⟩, gw_289⟩
theorem vl_L_50 : VL "RibbedLoansLaw" 50 RX6 yX6_bringBack cX6_bringBack 4 (some .int) := ⟨⟨gw_456, gw_457, gw_458, gw_12⟩, gw_459⟩
theorem yv_X6_bringBack : YV yX6_bringBack RX6 2 := ⟨rfl, by decide +kernel, by decide +kernel, by decide +kernel⟩
theorem vl_X6_59 : VL RX6 59 RX0 yX0_returningError cX0_returningError 3 (some .int) := ⟨⟨gw_460, gw_461, gw_462, gw_14⟩, gw_463⟩
theorem yv_X0_returningError : YV yX0_returningError RX0 2 := ⟨rfl, by decide +kernel, by decide +kernel, by decide +kernel⟩
theorem vl_X0_122 : VL RX0 122 RX0 yX0_hasOne cX0_hasOne 2 (some .boolean) := ⟨⟨gw_464, gw_406, gw_407, gw_14⟩, gw_408⟩
theorem vl_X6_62 : VL RX6 62 RX0 yX0_takeBack cX0_takeBack 4 (some .int) := ⟨⟨gw_465, gw_466, gw_467, gw_14⟩, gw_468⟩
theorem yv_X0_takeBack : YV yX0_takeBack RX0 2 := ⟨rfl, by decide +kernel, by decide +kernel, by decide +kernel⟩
theorem vl_X0_125 : VL RX0 125 RX0 yX0_feeAfter cX0_feeAfter 7 (some .int) := ⟨⟨gw_469, gw_410, gw_411, gw_14⟩, gw_412⟩
theorem vl_L_56 : SL "RibbedLoansLaw" 56 yL_hour cL_hour 13 (some .boolean) := ⟨⟨gw_470, gw_471, gw_11⟩, gw_472⟩
theorem yv_L_hour : YV yL_hour RL 3 := ⟨rfl, by decide +kernel, by decide +kernel, by decide +kernel⟩
theorem vl_L_34 : VL "RibbedLoansLaw" 34 RX6 yX6_emptied cX6_emptied 3 (some .int) := ⟨⟨gw_473, gw_474, gw_475, gw_12⟩, gw_476⟩
theorem yv_X6_emptied : YV yX6_emptied RX6 0 := ⟨rfl, by decide +kernel, by decide +kernel, by decide +kernel⟩
theorem vl_X6_263 : VL RX6 263 RX0 yX0_lackAt cX0_lackAt 4 (some .int) := ⟨⟨gw_477, gw_478, gw_479, gw_14⟩, gw_480⟩
theorem yv_X0_lackAt : YV yX0_lackAt RX0 1 := ⟨rfl, by decide +kernel, by decide +kernel, by decide +kernel⟩
theorem vl_X0_158 : VL RX0 158 RX5 yX5_wholeAt cX5_wholeAt 2 (some .int) := ⟨⟨gw_481, gw_482, gw_483, gw_15⟩, gw_484⟩
theorem yv_X5_wholeAt : YV yX5_wholeAt RX5 1 := ⟨rfl, by decide +kernel, by decide +kernel, by decide +kernel⟩
theorem vl_X5_57 : VL RX5 57 RX5 yX5_brokenAt cX5_brokenAt 4 (some .int) := ⟨⟨gw_485, gw_379, gw_380, gw_15⟩, gw_381⟩
theorem vl_L_38 : VL "RibbedLoansLaw" 38 RX6 yX6_hour cX6_hour 4 (some .int) := ⟨⟨gw_486, gw_487, gw_488, gw_12⟩, gw_489⟩
theorem yv_X6_hour : YV yX6_hour RX6 2 := ⟨rfl, by decide +kernel, by decide +kernel, by decide +kernel⟩
theorem vl_X6_65 : VL RX6 65 RX0 yX0_passingError cX0_passingError 3 (some .int) := ⟨⟨gw_490, gw_491, gw_492, gw_14⟩, gw_493⟩
theorem yv_X0_passingError : YV yX0_passingError RX0 2 := ⟨rfl, by decide +kernel, by decide +kernel, by decide +kernel⟩
theorem vl_X6_68 : VL RX6 68 RX0 yX0_passHour cX0_passHour 4 (some .int) := ⟨⟨gw_494, gw_495, gw_496, gw_14⟩, gw_497⟩
theorem yv_X0_passHour : YV yX0_passHour RX0 2 := ⟨rfl, by decide +kernel, by decide +kernel, by decide +kernel⟩
theorem vl_X0_143 : VL RX0 143 RX0 yX0_countShower cX0_countShower 2 none := ⟨⟨gw_498, gw_500, gw_6, gw_14⟩, gw_501⟩
theorem yv_X0_countShower : YV yX0_countShower RX0 0 := ⟨rfl, by decide +kernel, by decide +kernel, by decide +kernel⟩
theorem vl_X0_146 : VL RX0 146 RX0 yX0_wearDown cX0_wearDown 7 (some .int) := ⟨⟨gw_502, gw_504, gw_7, gw_14⟩, gw_505⟩
theorem yv_X0_wearDown : YV yX0_wearDown RX0 2 := ⟨rfl, by decide +kernel, by decide +kernel, by decide +kernel⟩
theorem vl_X0_149 : VL RX0 149 RX0 yX0_surge cX0_surge 3 none := ⟨⟨gw_507, gw_509, gw_8, gw_14⟩, gw_510⟩
theorem yv_X0_surge : YV yX0_surge RX0 0 := ⟨rfl, by decide +kernel, by decide +kernel, by decide +kernel⟩
theorem vl_L_59 : VL "RibbedLoansLaw" 59 RX6 yX6_set cX6_set 4 (some .int) := ⟨⟨gw_511, gw_512, gw_513, gw_12⟩, gw_514⟩
theorem yv_X6_set : YV yX6_set RX6 2 := ⟨rfl, by decide +kernel, by decide +kernel, by decide +kernel⟩
theorem vl_X6_47 : VL RX6 47 RX0 yX0_settingError cX0_settingError 3 (some .int) := ⟨⟨gw_515, gw_516, gw_517, gw_14⟩, gw_518⟩
theorem yv_X0_settingError : YV yX0_settingError RX0 2 := ⟨rfl, by decide +kernel, by decide +kernel, by decide +kernel⟩
theorem vl_X6_50 : VL RX6 50 RX0 yX0_change cX0_change 4 (some .int) := ⟨⟨gw_519, gw_520, gw_521, gw_14⟩, gw_522⟩
theorem yv_X0_change : YV yX0_change RX0 2 := ⟨rfl, by decide +kernel, by decide +kernel, by decide +kernel⟩
theorem vl_L_62 : VL "RibbedLoansLaw" 62 RX6 yX6_load cX6_load 5 (some .int) := ⟨⟨gw_523, gw_524, gw_525, gw_12⟩, gw_526⟩
theorem yv_X6_load : YV yX6_load RX6 3 := ⟨rfl, by decide +kernel, by decide +kernel, by decide +kernel⟩
theorem vl_X6_71 : VL RX6 71 RX0 yX0_loadingError cX0_loadingError 5 (some .int) := ⟨⟨gw_527, gw_528, gw_529, gw_14⟩, gw_530⟩
theorem yv_X0_loadingError : YV yX0_loadingError RX0 3 := ⟨rfl, by decide +kernel, by decide +kernel, by decide +kernel⟩
theorem vl_X6_75 : VL RX6 75 RX0 yX0_fillVan cX0_fillVan 7 (some .int) := ⟨⟨gw_531, gw_532, gw_533, gw_14⟩, gw_534⟩
theorem yv_X0_fillVan : YV yX0_fillVan RX0 3 := ⟨rfl, by decide +kernel, by decide +kernel, by decide +kernel⟩
theorem vl_X0_161 : VL RX0 161 RX5 yX5_worstAt cX5_worstAt 4 (some .int) := ⟨⟨gw_535, gw_391, gw_392, gw_15⟩, gw_393⟩
theorem vl_X0_164 : VL RX0 164 RX5 yX5_isBroken cX5_isBroken 2 (some .boolean) := ⟨⟨gw_536, gw_340, gw_341, gw_15⟩, gw_342⟩
theorem vl_L_65 : VL "RibbedLoansLaw" 65 RX6 yX6_unload cX6_unload 5 (some .int) := ⟨⟨gw_537, gw_538, gw_539, gw_12⟩, gw_540⟩
theorem yv_X6_unload : YV yX6_unload RX6 3 := ⟨rfl, by decide +kernel, by decide +kernel, by decide +kernel⟩
theorem vl_X6_78 : VL RX6 78 RX0 yX0_unloadingError cX0_unloadingError 4 (some .int) := ⟨⟨gw_541, gw_542, gw_543, gw_14⟩, gw_544⟩
theorem yv_X0_unloadingError : YV yX0_unloadingError RX0 3 := ⟨rfl, by decide +kernel, by decide +kernel, by decide +kernel⟩
theorem vl_X6_81 : VL RX6 81 RX0 yX0_emptyVan cX0_emptyVan 6 (some .int) := ⟨⟨gw_545, gw_546, gw_547, gw_14⟩, gw_548⟩
theorem yv_X0_emptyVan : YV yX0_emptyVan RX0 3 := ⟨rfl, by decide +kernel, by decide +kernel, by decide +kernel⟩
theorem vl_L_68 : VL "RibbedLoansLaw" 68 RX6 yX6_inVan cX6_inVan 3 (some .int) := ⟨⟨gw_549, gw_550, gw_551, gw_12⟩, gw_552⟩
theorem yv_X6_inVan : YV yX6_inVan RX6 2 := ⟨rfl, by decide +kernel, by decide +kernel, by decide +kernel⟩
theorem vl_X6_251 : VL RX6 251 RX5 yX5_nthAt cX5_nthAt 5 (some .int) := ⟨⟨gw_553, gw_370, gw_371, gw_15⟩, gw_372⟩
theorem vl_L_71 : VL "RibbedLoansLaw" 71 RX6 yX6_toWorkshop cX6_toWorkshop 3 (some .int) := ⟨⟨gw_554, gw_555, gw_556, gw_12⟩, gw_557⟩
theorem yv_X6_toWorkshop : YV yX6_toWorkshop RX6 1 := ⟨rfl, by decide +kernel, by decide +kernel, by decide +kernel⟩
theorem vl_X6_84 : VL RX6 84 RX0 yX0_deliveringError cX0_deliveringError 2 (some .int) := ⟨⟨gw_558, gw_559, gw_560, gw_14⟩, gw_561⟩
theorem yv_X0_deliveringError : YV yX0_deliveringError RX0 1 := ⟨rfl, by decide +kernel, by decide +kernel, by decide +kernel⟩
theorem vl_X0_167 : VL RX0 167 RX5 yX5_brokenAt cX5_brokenAt 4 (some .int) := ⟨⟨gw_562, gw_379, gw_380, gw_15⟩, gw_381⟩
theorem vl_X6_88 : VL RX6 88 RX0 yX0_deliver cX0_deliver 4 (some .int) := ⟨⟨gw_563, gw_564, gw_565, gw_14⟩, gw_566⟩
theorem yv_X0_deliver : YV yX0_deliver RX0 1 := ⟨rfl, by decide +kernel, by decide +kernel, by decide +kernel⟩
theorem vl_L_74 : VL "RibbedLoansLaw" 74 RX6 yX6_mend cX6_mend 3 (some .int) := ⟨⟨gw_567, gw_568, gw_569, gw_12⟩, gw_570⟩
theorem yv_X6_mend : YV yX6_mend RX6 1 := ⟨rfl, by decide +kernel, by decide +kernel, by decide +kernel⟩
theorem vl_X6_91 : VL RX6 91 RX0 yX0_mendingError cX0_mendingError 2 (some .int) := ⟨⟨gw_571, gw_572, gw_573, gw_14⟩, gw_574⟩
theorem yv_X0_mendingError : YV yX0_mendingError RX0 1 := ⟨rfl, by decide +kernel, by decide +kernel, by decide +kernel⟩
theorem vl_X6_94 : VL RX6 94 RX0 yX0_mendOne cX0_mendOne 5 (some .int) := ⟨⟨gw_575, gw_576, gw_577, gw_14⟩, gw_578⟩
theorem yv_X0_mendOne : YV yX0_mendOne RX0 1 := ⟨rfl, by decide +kernel, by decide +kernel, by decide +kernel⟩
theorem vl_X0_170 : VL RX0 170 RX5 yX5_leastWornAt cX5_leastWornAt 7 (some .int) := ⟨⟨gw_579, gw_387, gw_388, gw_15⟩, gw_389⟩
theorem vl_L_77 : VL "RibbedLoansLaw" 77 RX6 yX6_level cX6_level 1 (some .int) := ⟨⟨gw_581, gw_582, gw_583, gw_12⟩, gw_584⟩
theorem yv_X6_level : YV yX6_level RX6 0 := ⟨rfl, by decide +kernel, by decide +kernel, by decide +kernel⟩
theorem vl_X6_97 : VL RX6 97 RX0 yX0_evenOut cX0_evenOut 6 (some .int) := ⟨⟨gw_585, gw_586, gw_587, gw_14⟩, gw_588⟩
theorem yv_X0_evenOut : YV yX0_evenOut RX0 0 := ⟨rfl, by decide +kernel, by decide +kernel, by decide +kernel⟩
theorem vl_X0_177 : VL RX0 177 RX0 yX0_fullest cX0_fullest 3 (some .int) := ⟨⟨gw_590, gw_592, gw_9, gw_14⟩, gw_593⟩
theorem yv_X0_fullest : YV yX0_fullest RX0 0 := ⟨rfl, by decide +kernel, by decide +kernel, by decide +kernel⟩
theorem vl_X0_180 : VL RX0 180 RX0 yX0_emptiestWithRoom cX0_emptiestWithRoom 4 (some .int) := ⟨⟨gw_594, gw_596, gw_10, gw_14⟩, gw_597⟩
theorem yv_X0_emptiestWithRoom : YV yX0_emptiestWithRoom RX0 0 := ⟨rfl, by decide +kernel, by decide +kernel, by decide +kernel⟩
theorem vl_L_80 : VL "RibbedLoansLaw" 80 RX6 yX6_take cX6_take 2 (some .int) := ⟨⟨gw_598, gw_599, gw_600, gw_12⟩, gw_601⟩
theorem yv_X6_take : YV yX6_take RX6 1 := ⟨rfl, by decide +kernel, by decide +kernel, by decide +kernel⟩
theorem vl_X6_105 : VL RX6 105 RX3 yX3_keep cX3_keep 2 none := ⟨⟨gw_602, gw_603, gw_604, gw_13⟩, gw_605⟩
theorem yv_X3_keep : YV yX3_keep RX3 1 := ⟨rfl, by decide +kernel, by decide +kernel, by decide +kernel⟩
theorem vn_X6_11 : (Cond.instanceMethod yX3_init ∈ GW ∧ Cond.initialized yX3_init.cls ∈ GW) ∧ Cond.code yX3_init cX3_init 1 none ∈ GW := ⟨⟨gw_33, gw_13⟩, gw_34⟩
theorem yv_X3_init : YV yX3_init yX3_init.cls 0 := ⟨rfl, by decide +kernel, by decide +kernel, by decide +kernel⟩
theorem vn_X0_11 : (Cond.instanceMethod yX5_init ∈ GW ∧ Cond.initialized yX5_init.cls ∈ GW) ∧ Cond.code yX5_init cX5_init 1 none ∈ GW := ⟨⟨gw_45, gw_15⟩, gw_46⟩
theorem yv_X5_init : YV yX5_init yX5_init.cls 0 := ⟨rfl, by decide +kernel, by decide +kernel, by decide +kernel⟩
theorem vn_X1_17 : (Cond.instanceMethod yX3_init ∈ GW ∧ Cond.initialized yX3_init.cls ∈ GW) ∧ Cond.code yX3_init cX3_init 1 none ∈ GW := ⟨⟨gw_33, gw_13⟩, gw_34⟩
theorem vn_X6_25 : (Cond.instanceMethod yX4_init ∈ GW ∧ Cond.initialized yX4_init.cls ∈ GW) ∧ Cond.code yX4_init cX4_init 1 none ∈ GW := ⟨⟨gw_184, gw_20⟩, gw_185⟩
theorem yv_X4_init : YV yX4_init yX4_init.cls 0 := ⟨rfl, by decide +kernel, by decide +kernel, by decide +kernel⟩
theorem vn_X0_82 : (Cond.static yX6_outside ∈ GW ∧ Cond.initialized yX6_outside.cls ∈ GW) ∧ Cond.code yX6_outside cX6_outside 3 (some .boolean) ∈ GW := ⟨⟨gw_222, gw_12⟩, gw_223⟩
theorem vn_X5_47 : (Cond.static yX6_kindOf ∈ GW ∧ Cond.initialized yX6_kindOf.cls ∈ GW) ∧ Cond.code yX6_kindOf cX6_kindOf 1 (some .int) ∈ GW := ⟨⟨gw_233, gw_12⟩, gw_234⟩
theorem vn_X0_135 : (Cond.static yX6_wornBy ∈ GW ∧ Cond.initialized yX6_wornBy.cls ∈ GW) ∧ Cond.code yX6_wornBy cX6_wornBy 4 (some .int) ∈ GW := ⟨⟨gw_415, gw_12⟩, gw_416⟩
theorem yv_X6_wornBy : YV yX6_wornBy yX6_wornBy.cls 3 := ⟨rfl, by decide +kernel, by decide +kernel, by decide +kernel⟩
theorem vn_X0_155 : (Cond.static yX6_kindOf ∈ GW ∧ Cond.initialized yX6_kindOf.cls ∈ GW) ∧ Cond.code yX6_kindOf cX6_kindOf 1 (some .int) ∈ GW := ⟨⟨gw_233, gw_12⟩, gw_234⟩
abbrev TY (cI cC cR : ClassId) : List (ClassId × FieldType) := [(cI, .int), (cC, .char), (cR, .object RX3)]
abbrev wX2 (cI : ClassId) (h0 h1 : Nat) (N : Nat) (c : Nat → Int32) : va_W := [(h0, .inr (2, [.ref h1])), (h1, .inl (cI, N, .inl c))]
abbrev wX5 (cI : ClassId) (h0 h1 h2 h3 h4 h5 h6 h7 h8 : Nat) (sp : Nat → Int32) (we : Nat → Int32) (le : Nat → Int32) (ta : Nat → Int32) (num : Int32) : va_W := [(h0, .inr (5, [.ref h1, .ref h3, .ref h5, .ref h7, .int num])), (h1, .inr (2, [.ref h2])), (h2, .inl (cI, 60, .inl sp)), (h3, .inr (2, [.ref h4])), (h4, .inl (cI, 60, .inl we)), (h5, .inr (2, [.ref h6])), (h6, .inl (cI, 60, .inl le)), (h7, .inr (2, [.ref h8])), (h8, .inl (cI, 24, .inl ta))]
abbrev wX4 (cC : ClassId) (h0 h1 : Nat) (ch : Nat → Int32) (len : Int32) (cur : Int32) (verb : Int32) (fi : Int32) (se : Int32) : va_W := [(h0, .inr (4, [.ref h1, .int len, .int cur, .int verb, .int fi, .int se])), (h1, .inl (cC, 80, .inl ch))]
abbrev wX0 (cI : ClassId) (h0 h1 h2 h3 h4 h5 h6 h7 h8 h9 h10 h11 h12 h13 h14 h15 h16 h17 h18 h19 : Nat) (sp : Nat → Int32) (we : Nat → Int32) (le : Nat → Int32) (ta : Nat → Int32) (num : Int32) (rooms : Nat → Int32) (purses : Nat → Int32) (showers : Nat → Int32) (homes : Nat → Int32) (paid : Nat → Int32) (hours : Int32) (house : Int32) (spent : Int32) (loans : Int32) (surges : Int32) (rate : Int32) : va_W := [(h0, .inr (0, [.ref h1, .ref h10, .ref h12, .ref h14, .ref h16, .ref h18, .int hours, .int house, .int spent, .int loans, .int surges, .int rate])), (h1, .inr (5, [.ref h2, .ref h4, .ref h6, .ref h8, .int num])), (h2, .inr (2, [.ref h3])), (h3, .inl (cI, 60, .inl sp)), (h4, .inr (2, [.ref h5])), (h5, .inl (cI, 60, .inl we)), (h6, .inr (2, [.ref h7])), (h7, .inl (cI, 60, .inl le)), (h8, .inr (2, [.ref h9])), (h9, .inl (cI, 24, .inl ta)), (h10, .inr (2, [.ref h11])), (h11, .inl (cI, 8, .inl rooms)), (h12, .inr (2, [.ref h13])), (h13, .inl (cI, 12, .inl purses)), (h14, .inr (2, [.ref h15])), (h15, .inl (cI, 12, .inl showers)), (h16, .inr (2, [.ref h17])), (h17, .inl (cI, 12, .inl homes)), (h18, .inr (2, [.ref h19])), (h19, .inl (cI, 12, .inl paid))]
