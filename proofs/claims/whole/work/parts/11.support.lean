def IL (own : String) (idx : Nat) (C : String) (y : MethodName) (cy : ByteArray) (my : Nat) : Prop := (Cond.methodLink own idx y ∈ GW ∧ Cond.instanceMethod y ∈ GW ∧ Cond.initialized C ∈ GW) ∧ Cond.code y cy my none ∈ GW
theorem ci_m1 : Int32.ofInt (-1) = (-1) := by decide
theorem ci_0 : Int32.ofInt (0) = 0 := by decide
theorem ci_1 : Int32.ofInt (1) = 1 := by decide
theorem ci_2 : Int32.ofInt (2) = 2 := by decide
theorem ci_3 : Int32.ofInt (3) = 3 := by decide
theorem ci_4 : Int32.ofInt (4) = 4 := by decide
theorem ci_5 : Int32.ofInt (5) = 5 := by decide
theorem cb_m10 : (Int8.ofInt (-10)).toInt32 = (-10) := by decide
theorem cb_m9 : (Int8.ofInt (-9)).toInt32 = (-9) := by decide
theorem cb_m3 : (Int8.ofInt (-3)).toInt32 = (-3) := by decide
theorem cb_m2 : (Int8.ofInt (-2)).toInt32 = (-2) := by decide
theorem cb_7 : (Int8.ofInt (7)).toInt32 = 7 := by decide
theorem cb_8 : (Int8.ofInt (8)).toInt32 = 8 := by decide
theorem cb_9 : (Int8.ofInt (9)).toInt32 = 9 := by decide
theorem cb_10 : (Int8.ofInt (10)).toInt32 = 10 := by decide
theorem cb_11 : (Int8.ofInt (11)).toInt32 = 11 := by decide
theorem cb_12 : (Int8.ofInt (12)).toInt32 = 12 := by decide
theorem cb_16 : (Int8.ofInt (16)).toInt32 = 16 := by decide
theorem cb_20 : (Int8.ofInt (20)).toInt32 = 20 := by decide
theorem cb_22 : (Int8.ofInt (22)).toInt32 = 22 := by decide
theorem cb_23 : (Int8.ofInt (23)).toInt32 = 23 := by decide
theorem cb_24 : (Int8.ofInt (24)).toInt32 = 24 := by decide
theorem cb_31 : (Int8.ofInt (31)).toInt32 = 31 := by decide
theorem cb_32 : (Int8.ofInt (32)).toInt32 = 32 := by decide
theorem cb_40 : (Int8.ofInt (40)).toInt32 = 40 := by decide
theorem cb_44 : (Int8.ofInt (44)).toInt32 = 44 := by decide
theorem cb_48 : (Int8.ofInt (48)).toInt32 = 48 := by decide
theorem cb_50 : (Int8.ofInt (50)).toInt32 = 50 := by decide
theorem cb_57 : (Int8.ofInt (57)).toInt32 = 57 := by decide
theorem cb_59 : (Int8.ofInt (59)).toInt32 = 59 := by decide
theorem cb_60 : (Int8.ofInt (60)).toInt32 = 60 := by decide
theorem cb_61 : (Int8.ofInt (61)).toInt32 = 61 := by decide
theorem cb_64 : (Int8.ofInt (64)).toInt32 = 64 := by decide
theorem cb_80 : (Int8.ofInt (80)).toInt32 = 80 := by decide
theorem cb_98 : (Int8.ofInt (98)).toInt32 = 98 := by decide
theorem cb_100 : (Int8.ofInt (100)).toInt32 = 100 := by decide
theorem cb_104 : (Int8.ofInt (104)).toInt32 = 104 := by decide
theorem cb_108 : (Int8.ofInt (108)).toInt32 = 108 := by decide
theorem cb_114 : (Int8.ofInt (114)).toInt32 = 114 := by decide
theorem cb_121 : (Int8.ofInt (121)).toInt32 = 121 := by decide
theorem cs_m1000 : (Int16.ofInt (-1000)).toInt32 = (-1000) := by decide
theorem cs_181 : (Int16.ofInt (181)).toInt32 = 181 := by decide
theorem cs_241 : (Int16.ofInt (241)).toInt32 = 241 := by decide
theorem cs_249 : (Int16.ofInt (249)).toInt32 = 249 := by decide
theorem cs_255 : (Int16.ofInt (255)).toInt32 = 255 := by decide
theorem cs_261 : (Int16.ofInt (261)).toInt32 = 261 := by decide
theorem cs_273 : (Int16.ofInt (273)).toInt32 = 273 := by decide
theorem cs_285 : (Int16.ofInt (285)).toInt32 = 285 := by decide
theorem cs_297 : (Int16.ofInt (297)).toInt32 = 297 := by decide
theorem cs_309 : (Int16.ofInt (309)).toInt32 = 309 := by decide
theorem cs_321 : (Int16.ofInt (321)).toInt32 = 321 := by decide
theorem cs_322 : (Int16.ofInt (322)).toInt32 = 322 := by decide
theorem cs_323 : (Int16.ofInt (323)).toInt32 = 323 := by decide
theorem cs_324 : (Int16.ofInt (324)).toInt32 = 324 := by decide
theorem cs_325 : (Int16.ofInt (325)).toInt32 = 325 := by decide
theorem cs_326 : (Int16.ofInt (326)).toInt32 = 326 := by decide
theorem cs_327 : (Int16.ofInt (327)).toInt32 = 327 := by decide
theorem cs_328 : (Int16.ofInt (328)).toInt32 = 328 := by decide
theorem cs_329 : (Int16.ofInt (329)).toInt32 = 329 := by decide
theorem cs_500 : (Int16.ofInt (500)).toInt32 = 500 := by decide
theorem cs_657 : (Int16.ofInt (657)).toInt32 = 657 := by decide
theorem cs_986 : (Int16.ofInt (986)).toInt32 = 986 := by decide
theorem cs_3944 : (Int16.ofInt (3944)).toInt32 = 3944 := by decide
theorem cs_4930 : (Int16.ofInt (4930)).toInt32 = 4930 := by decide
theorem cn_5 : nI 5 = 5 := by decide
theorem cn_8 : nI 8 = 8 := by decide
theorem cn_12 : nI 12 = 12 := by decide
theorem cn_24 : nI 24 = 24 := by decide
theorem cn_60 : nI 60 = 60 := by decide
theorem cn_80 : nI 80 = 80 := by decide
theorem cn_328 : nI 328 = 328 := by decide
theorem cn_986 : nI 986 = 986 := by decide
theorem cn_4930 : nI 4930 = 4930 := by decide
theorem pfd_I : parseFieldDescriptor "I" = some .int := by decide +kernel
theorem pfd_Z : parseFieldDescriptor "Z" = some .boolean := by decide +kernel
theorem nw_0 : Cond.methodLinkNest RX6 11 yX3_init RX6 ∈ NWL := List.mem_of_getElem? (i := 0) rfl
theorem nw_1 : Cond.methodLinkNest RX0 11 yX5_init RX6 ∈ NWL := List.mem_of_getElem? (i := 1) rfl
theorem nw_2 : Cond.fieldLinkNest RX6 203 RX5 "spots" "LRibbedLoans$Row;" RX6 ∈ NWL := List.mem_of_getElem? (i := 2) rfl
theorem nw_3 : Cond.fieldLinkNest RX0 152 RX5 "spots" "LRibbedLoans$Row;" RX6 ∈ NWL := List.mem_of_getElem? (i := 3) rfl
theorem nw_4 : Cond.fieldLinkNest RX0 132 RX5 "wears" "LRibbedLoans$Row;" RX6 ∈ NWL := List.mem_of_getElem? (i := 4) rfl
theorem nw_5 : Cond.fieldLinkNest RX6 215 RX5 "wears" "LRibbedLoans$Row;" RX6 ∈ NWL := List.mem_of_getElem? (i := 5) rfl
theorem nw_6 : Cond.fieldLinkNest RX0 116 RX5 "lendings" "LRibbedLoans$Row;" RX6 ∈ NWL := List.mem_of_getElem? (i := 6) rfl
theorem nw_7 : Cond.fieldLinkNest RX6 221 RX5 "lendings" "LRibbedLoans$Row;" RX6 ∈ NWL := List.mem_of_getElem? (i := 7) rfl
theorem nw_8 : Cond.fieldLinkNest RX0 90 RX5 "number" "I" RX6 ∈ NWL := List.mem_of_getElem? (i := 8) rfl
theorem nw_9 : Cond.fieldLinkNest RX6 162 RX5 "number" "I" RX6 ∈ NWL := List.mem_of_getElem? (i := 9) rfl
theorem nw_10 : Cond.fieldLinkNest RX6 158 RX0 "umbrellas" "LRibbedLoans$Umbrellas;" RX6 ∈ NWL := List.mem_of_getElem? (i := 10) rfl
theorem nw_11 : Cond.fieldLinkNest RX6 224 RX0 "rooms" "LRibbedLoans$Row;" RX6 ∈ NWL := List.mem_of_getElem? (i := 11) rfl
theorem nw_12 : Cond.fieldLinkNest RX6 176 RX0 "purses" "LRibbedLoans$Row;" RX6 ∈ NWL := List.mem_of_getElem? (i := 12) rfl
theorem nw_13 : Cond.fieldLinkNest RX6 245 RX0 "showers" "LRibbedLoans$Row;" RX6 ∈ NWL := List.mem_of_getElem? (i := 13) rfl
theorem nw_14 : Cond.fieldLinkNest RX6 248 RX0 "homes" "LRibbedLoans$Row;" RX6 ∈ NWL := List.mem_of_getElem? (i := 14) rfl
theorem nw_15 : Cond.fieldLinkNest RX6 188 RX0 "paid" "LRibbedLoans$Row;" RX6 ∈ NWL := List.mem_of_getElem? (i := 15) rfl
theorem nw_16 : Cond.fieldLinkNest RX6 109 RX0 "hours" "I" RX6 ∈ NWL := List.mem_of_getElem? (i := 16) rfl
theorem nw_17 : Cond.fieldLinkNest RX6 173 RX0 "house" "I" RX6 ∈ NWL := List.mem_of_getElem? (i := 17) rfl
theorem nw_18 : Cond.fieldLinkNest RX6 185 RX0 "spent" "I" RX6 ∈ NWL := List.mem_of_getElem? (i := 18) rfl
theorem nw_19 : Cond.fieldLinkNest RX6 191 RX0 "loans" "I" RX6 ∈ NWL := List.mem_of_getElem? (i := 19) rfl
theorem nw_20 : Cond.fieldLinkNest RX6 194 RX0 "surges" "I" RX6 ∈ NWL := List.mem_of_getElem? (i := 20) rfl
theorem nw_21 : Cond.fieldLinkNest RX6 197 RX0 "rate" "I" RX6 ∈ NWL := List.mem_of_getElem? (i := 21) rfl
theorem nw_22 : Cond.fieldLinkNest RX6 30 RX3 "city" "LRibbedLoans$City;" RX6 ∈ NWL := List.mem_of_getElem? (i := 22) rfl
theorem nw_23 : Cond.methodLinkNest RX1 17 yX3_init RX6 ∈ NWL := List.mem_of_getElem? (i := 23) rfl
theorem nw_24 : Cond.fieldLinkNest RX6 120 RX1 "size" "I" RX6 ∈ NWL := List.mem_of_getElem? (i := 24) rfl
theorem nw_25 : Cond.methodLinkNest RX6 25 yX4_init RX6 ∈ NWL := List.mem_of_getElem? (i := 25) rfl
theorem nw_26 : Cond.fieldLinkNest RX6 126 RX4 "length" "I" RX6 ∈ NWL := List.mem_of_getElem? (i := 26) rfl
theorem nw_27 : Cond.fieldLinkNest RX6 155 RX4 "verb" "I" RX6 ∈ NWL := List.mem_of_getElem? (i := 27) rfl
theorem nw_28 : Cond.fieldLinkNest RX6 149 RX4 "first" "I" RX6 ∈ NWL := List.mem_of_getElem? (i := 28) rfl
theorem nw_29 : Cond.fieldLinkNest RX6 152 RX4 "second" "I" RX6 ∈ NWL := List.mem_of_getElem? (i := 29) rfl
theorem nw_30 : Cond.methodLinkNest RX0 82 yX6_outside RX6 ∈ NWL := List.mem_of_getElem? (i := 30) rfl
theorem nw_31 : Cond.methodLinkNest RX5 47 yX6_kindOf RX6 ∈ NWL := List.mem_of_getElem? (i := 31) rfl
theorem nw_32 : Cond.methodLinkNest RX0 135 yX6_wornBy RX6 ∈ NWL := List.mem_of_getElem? (i := 32) rfl
theorem nw_33 : Cond.methodLinkNest RX0 155 yX6_kindOf RX6 ∈ NWL := List.mem_of_getElem? (i := 33) rfl
theorem nw_34 : Cond.methodLinkNest RX4 55 yX6_outside RX6 ∈ NWL := List.mem_of_getElem? (i := 34) rfl
theorem pn_X0 : plainName RX0 = true := by decide +kernel
theorem pn_X1 : plainName RX1 = true := by decide +kernel
theorem pn_X2 : plainName RX2 = true := by decide +kernel
theorem pn_X3 : plainName RX3 = true := by decide +kernel
theorem pn_X4 : plainName RX4 = true := by decide +kernel
theorem pn_X5 : plainName RX5 = true := by decide +kernel
theorem pn_X6 : plainName RX6 = true := by decide +kernel
theorem pn_X7 : plainName RX7 = true := by decide +kernel
theorem vl_L_9 : IL "RibbedLoansLaw" 9 RX6 yX6_init cX6_init 1 := ⟨⟨gw_62, gw_63, gw_49⟩, gw_64⟩
theorem yv_X6_init : YV yX6_init RX6 0 := ⟨rfl, by decide +kernel, by decide +kernel, by decide +kernel⟩
theorem vl_X3_9 : IL RX3 9 RX0 yX0_init cX0_init 2 := ⟨⟨gw_76, gw_77, gw_51⟩, gw_78⟩
theorem yv_X0_init : YV yX0_init RX0 0 := ⟨rfl, by decide +kernel, by decide +kernel, by decide +kernel⟩
theorem vl_X5_11 : IL RX5 11 RX2 yX2_init cX2_init 3 := ⟨⟨gw_88, gw_89, gw_53⟩, gw_90⟩
theorem yv_X2_init : YV yX2_init RX2 2 := ⟨rfl, by decide +kernel, by decide +kernel, by decide +kernel⟩
theorem vl_X2_19 : SL RX2 19 yJ7_fill_53178 cJ7_fill_53178 4 none := ⟨⟨gw_95, gw_96, gw_53⟩, gw_97⟩
theorem yv_J7_fill_53178 : YV yJ7_fill_53178 RJ7 2 := ⟨rfl, by decide +kernel, by decide +kernel, by decide +kernel⟩
theorem vl_X0_20 : IL RX0 20 RX2 yX2_init cX2_init 3 := ⟨⟨gw_128, gw_89, gw_53⟩, gw_90⟩
theorem vl_X0_46 : VL RX0 46 RX2 yX2_put cX2_put 3 none := ⟨⟨gw_129, gw_130, gw_131, gw_53⟩, gw_132⟩
theorem yv_X2_put : YV yX2_put RX2 2 := ⟨rfl, by decide +kernel, by decide +kernel, by decide +kernel⟩
theorem vl_X6_18 : IL RX6 18 RX1 yX1_init cX1_init 2 := ⟨⟨gw_201, gw_202, gw_56⟩, gw_203⟩
theorem yv_X1_init : YV yX1_init RX1 0 := ⟨rfl, by decide +kernel, by decide +kernel, by decide +kernel⟩
theorem vl_L_13 : VL "RibbedLoansLaw" 13 RX6 yX6_buy cX6_buy 4 (some .int) := ⟨⟨gw_259, gw_260, gw_261, gw_49⟩, gw_262⟩
theorem yv_X6_buy : YV yX6_buy RX6 2 := ⟨rfl, by decide +kernel, by decide +kernel, by decide +kernel⟩
theorem vl_X6_34 : VL RX6 34 RX0 yX0_buyingError cX0_buyingError 4 (some .int) := ⟨⟨gw_263, gw_264, gw_265, gw_51⟩, gw_266⟩
theorem yv_X0_buyingError : YV yX0_buyingError RX0 2 := ⟨rfl, by decide +kernel, by decide +kernel, by decide +kernel⟩
theorem vl_X0_86 : VL RX0 86 RX0 yX0_spendable cX0_spendable 1 (some .int) := ⟨⟨gw_270, gw_272, gw_0, gw_51⟩, gw_273⟩
theorem yv_X0_spendable : YV yX0_spendable RX0 0 := ⟨rfl, by decide +kernel, by decide +kernel, by decide +kernel⟩
theorem vl_X0_68 : VL RX0 68 RX5 yX5_numberOfKind cX5_numberOfKind 4 (some .int) := ⟨⟨gw_274, gw_275, gw_276, gw_52⟩, gw_277⟩
theorem yv_X5_numberOfKind : YV yX5_numberOfKind RX5 1 := ⟨rfl, by decide +kernel, by decide +kernel, by decide +kernel⟩
theorem vl_X5_50 : VL RX5 50 RX5 yX5_numberAt cX5_numberAt 2 (some .int) := ⟨⟨gw_281, gw_282, gw_283, gw_52⟩, gw_284⟩
theorem yv_X5_numberAt : YV yX5_numberAt RX5 1 := ⟨rfl, by decide +kernel, by decide +kernel, by decide +kernel⟩
theorem vl_X5_43 : VL RX5 43 RX2 yX2_at cX2_at 2 (some .int) := ⟨⟨gw_285, gw_286, gw_287, gw_53⟩, gw_288⟩
theorem yv_X2_at : YV yX2_at RX2 1 := ⟨rfl, by decide +kernel, by decide +kernel, by decide +kernel⟩
theorem vl_X0_93 : VL RX0 93 RX0 yX0_freeAt cX0_freeAt 2 (some .int) := ⟨⟨gw_289, gw_291, gw_1, gw_51⟩, gw_292⟩
theorem yv_X0_freeAt : YV yX0_freeAt RX0 1 := ⟨rfl, by decide +kernel, by decide +kernel, by decide +kernel⟩
theorem vl_X0_72 : VL RX0 72 RX2 yX2_at cX2_at 2 (some .int) := ⟨⟨gw_293, gw_286, gw_287, gw_53⟩, gw_288⟩
theorem vl_X0_75 : VL RX0 75 RX5 yX5_numberAt cX5_numberAt 2 (some .int) := ⟨⟨gw_294, gw_282, gw_283, gw_52⟩, gw_284⟩
theorem vl_X6_40 : VL RX6 40 RX1 yX1_record cX1_record 3 none := ⟨⟨gw_295, gw_296, gw_297, gw_56⟩, gw_298⟩
theorem yv_X1_record : YV yX1_record RX1 1 := ⟨rfl, by decide +kernel, by decide +kernel, by decide +kernel⟩
theorem vl_X1_22 : VL RX1 22 RX3 yX3_copyFrom cX3_copyFrom 2 none := ⟨⟨gw_299, gw_300, gw_301, gw_50⟩, gw_302⟩
theorem yv_X3_copyFrom : YV yX3_copyFrom RX3 1 := ⟨rfl, by decide +kernel, by decide +kernel, by decide +kernel⟩
theorem vl_X3_22 : VL RX3 22 RX0 yX0_copyFrom cX0_copyFrom 2 none := ⟨⟨gw_303, gw_304, gw_305, gw_51⟩, gw_306⟩
theorem yv_X0_copyFrom : YV yX0_copyFrom RX0 1 := ⟨rfl, by decide +kernel, by decide +kernel, by decide +kernel⟩
theorem vl_X0_49 : VL RX0 49 RX5 yX5_copyFrom cX5_copyFrom 2 none := ⟨⟨gw_307, gw_308, gw_309, gw_52⟩, gw_310⟩
theorem yv_X5_copyFrom : YV yX5_copyFrom RX5 1 := ⟨rfl, by decide +kernel, by decide +kernel, by decide +kernel⟩
theorem vl_X5_29 : VL RX5 29 RX2 yX2_copyFrom cX2_copyFrom 2 none := ⟨⟨gw_311, gw_312, gw_313, gw_53⟩, gw_314⟩
theorem yv_X2_copyFrom : YV yX2_copyFrom RX2 1 := ⟨rfl, by decide +kernel, by decide +kernel, by decide +kernel⟩
theorem vl_X0_53 : VL RX0 53 RX2 yX2_copyFrom cX2_copyFrom 2 none := ⟨⟨gw_321, gw_312, gw_313, gw_53⟩, gw_314⟩
theorem vl_X6_44 : VL RX6 44 RX0 yX0_purchase cX0_purchase 5 (some .int) := ⟨⟨gw_323, gw_324, gw_325, gw_51⟩, gw_326⟩
theorem yv_X0_purchase : YV yX0_purchase RX0 2 := ⟨rfl, by decide +kernel, by decide +kernel, by decide +kernel⟩
theorem vl_X0_96 : VL RX0 96 RX5 yX5_addNew cX5_addNew 2 none := ⟨⟨gw_327, gw_328, gw_329, gw_52⟩, gw_330⟩
theorem yv_X5_addNew : YV yX5_addNew RX5 1 := ⟨rfl, by decide +kernel, by decide +kernel, by decide +kernel⟩
theorem vl_X5_37 : VL RX5 37 RX2 yX2_put cX2_put 3 none := ⟨⟨gw_331, gw_130, gw_131, gw_53⟩, gw_132⟩
theorem vl_X5_40 : VL RX5 40 RX2 yX2_add cX2_add 3 none := ⟨⟨gw_332, gw_333, gw_334, gw_53⟩, gw_335⟩
theorem yv_X2_add : YV yX2_add RX2 2 := ⟨rfl, by decide +kernel, by decide +kernel, by decide +kernel⟩
theorem vl_X0_100 : VL RX0 100 RX0 yX0_spend cX0_spend 2 none := ⟨⟨gw_336, gw_338, gw_2, gw_51⟩, gw_339⟩
theorem yv_X0_spend : YV yX0_spend RX0 1 := ⟨rfl, by decide +kernel, by decide +kernel, by decide +kernel⟩
theorem vl_L_18 : VL "RibbedLoansLaw" 18 RX6 yX6_set cX6_set 4 (some .int) := ⟨⟨gw_340, gw_341, gw_342, gw_49⟩, gw_343⟩
theorem yv_X6_set : YV yX6_set RX6 2 := ⟨rfl, by decide +kernel, by decide +kernel, by decide +kernel⟩
theorem vl_X6_47 : VL RX6 47 RX0 yX0_settingError cX0_settingError 3 (some .int) := ⟨⟨gw_344, gw_345, gw_346, gw_51⟩, gw_347⟩
theorem yv_X0_settingError : YV yX0_settingError RX0 2 := ⟨rfl, by decide +kernel, by decide +kernel, by decide +kernel⟩
theorem vl_X6_50 : VL RX6 50 RX0 yX0_change cX0_change 4 (some .int) := ⟨⟨gw_348, gw_349, gw_350, gw_51⟩, gw_351⟩
theorem yv_X0_change : YV yX0_change RX0 2 := ⟨rfl, by decide +kernel, by decide +kernel, by decide +kernel⟩
theorem vl_L_22 : VL "RibbedLoansLaw" 22 RX6 yX6_borrow cX6_borrow 4 (some .int) := ⟨⟨gw_352, gw_353, gw_354, gw_49⟩, gw_355⟩
theorem yv_X6_borrow : YV yX6_borrow RX6 2 := ⟨rfl, by decide +kernel, by decide +kernel, by decide +kernel⟩
theorem vl_X6_53 : VL RX6 53 RX0 yX0_lendingError cX0_lendingError 4 (some .int) := ⟨⟨gw_356, gw_357, gw_358, gw_51⟩, gw_359⟩
theorem yv_X0_lendingError : YV yX0_lendingError RX0 2 := ⟨rfl, by decide +kernel, by decide +kernel, by decide +kernel⟩
theorem vl_X0_103 : VL RX0 103 RX0 yX0_wouldBorrow cX0_wouldBorrow 2 (some .boolean) := ⟨⟨gw_360, gw_362, gw_3, gw_51⟩, gw_363⟩
theorem yv_X0_wouldBorrow : YV yX0_wouldBorrow RX0 1 := ⟨rfl, by decide +kernel, by decide +kernel, by decide +kernel⟩
theorem vl_X0_107 : VL RX0 107 RX5 yX5_bestAt cX5_bestAt 2 (some .int) := ⟨⟨gw_364, gw_365, gw_366, gw_52⟩, gw_367⟩
theorem yv_X5_bestAt : YV yX5_bestAt RX5 1 := ⟨rfl, by decide +kernel, by decide +kernel, by decide +kernel⟩
theorem vl_X5_60 : VL RX5 60 RX5 yX5_leastWornAt cX5_leastWornAt 7 (some .int) := ⟨⟨gw_368, gw_369, gw_370, gw_52⟩, gw_371⟩
theorem yv_X5_leastWornAt : YV yX5_leastWornAt RX5 3 := ⟨rfl, by decide +kernel, by decide +kernel, by decide +kernel⟩
theorem vl_X6_56 : VL RX6 56 RX0 yX0_lend cX0_lend 4 (some .int) := ⟨⟨gw_372, gw_373, gw_374, gw_51⟩, gw_375⟩
theorem yv_X0_lend : YV yX0_lend RX0 2 := ⟨rfl, by decide +kernel, by decide +kernel, by decide +kernel⟩
theorem vl_X0_110 : VL RX0 110 RX0 yX0_handOut cX0_handOut 3 none := ⟨⟨gw_376, gw_378, gw_4, gw_51⟩, gw_379⟩
theorem yv_X0_handOut : YV yX0_handOut RX0 2 := ⟨rfl, by decide +kernel, by decide +kernel, by decide +kernel⟩
theorem vl_X0_113 : VL RX0 113 RX5 yX5_move cX5_move 3 none := ⟨⟨gw_380, gw_381, gw_382, gw_52⟩, gw_383⟩
theorem yv_X5_move : YV yX5_move RX5 2 := ⟨rfl, by decide +kernel, by decide +kernel, by decide +kernel⟩
theorem vl_X0_119 : VL RX0 119 RX2 yX2_add cX2_add 3 none := ⟨⟨gw_384, gw_333, gw_334, gw_53⟩, gw_335⟩
theorem vl_L_26 : VL "RibbedLoansLaw" 26 RX6 yX6_bringBack cX6_bringBack 4 (some .int) := ⟨⟨gw_385, gw_386, gw_387, gw_49⟩, gw_388⟩
theorem yv_X6_bringBack : YV yX6_bringBack RX6 2 := ⟨rfl, by decide +kernel, by decide +kernel, by decide +kernel⟩
theorem vl_X6_59 : VL RX6 59 RX0 yX0_returningError cX0_returningError 3 (some .int) := ⟨⟨gw_389, gw_390, gw_391, gw_51⟩, gw_392⟩
theorem yv_X0_returningError : YV yX0_returningError RX0 2 := ⟨rfl, by decide +kernel, by decide +kernel, by decide +kernel⟩
theorem vl_X0_122 : VL RX0 122 RX0 yX0_hasOne cX0_hasOne 2 (some .boolean) := ⟨⟨gw_393, gw_394, gw_395, gw_51⟩, gw_396⟩
theorem yv_X0_hasOne : YV yX0_hasOne RX0 1 := ⟨rfl, by decide +kernel, by decide +kernel, by decide +kernel⟩
theorem vl_X6_62 : VL RX6 62 RX0 yX0_takeBack cX0_takeBack 4 (some .int) := ⟨⟨gw_397, gw_398, gw_399, gw_51⟩, gw_400⟩
theorem yv_X0_takeBack : YV yX0_takeBack RX0 2 := ⟨rfl, by decide +kernel, by decide +kernel, by decide +kernel⟩
theorem vl_X0_125 : VL RX0 125 RX0 yX0_feeAfter cX0_feeAfter 7 (some .int) := ⟨⟨gw_401, gw_402, gw_403, gw_51⟩, gw_404⟩
theorem yv_X0_feeAfter : YV yX0_feeAfter RX0 3 := ⟨rfl, by decide +kernel, by decide +kernel, by decide +kernel⟩
theorem vl_X0_129 : VL RX0 129 RX0 yX0_inHand cX0_inHand 2 (some .int) := ⟨⟨gw_405, gw_406, gw_407, gw_51⟩, gw_408⟩
theorem yv_X0_inHand : YV yX0_inHand RX0 1 := ⟨rfl, by decide +kernel, by decide +kernel, by decide +kernel⟩
theorem vl_X0_78 : VL RX0 78 RX5 yX5_nthAt cX5_nthAt 5 (some .int) := ⟨⟨gw_409, gw_410, gw_411, gw_52⟩, gw_412⟩
theorem yv_X5_nthAt : YV yX5_nthAt RX5 2 := ⟨rfl, by decide +kernel, by decide +kernel, by decide +kernel⟩
theorem vl_L_30 : VL "RibbedLoansLaw" 30 RX6 yX6_hour cX6_hour 4 (some .int) := ⟨⟨gw_418, gw_419, gw_420, gw_49⟩, gw_421⟩
theorem yv_X6_hour : YV yX6_hour RX6 2 := ⟨rfl, by decide +kernel, by decide +kernel, by decide +kernel⟩
theorem vl_X6_65 : VL RX6 65 RX0 yX0_passingError cX0_passingError 3 (some .int) := ⟨⟨gw_422, gw_423, gw_424, gw_51⟩, gw_425⟩
theorem yv_X0_passingError : YV yX0_passingError RX0 2 := ⟨rfl, by decide +kernel, by decide +kernel, by decide +kernel⟩
theorem vl_X6_68 : VL RX6 68 RX0 yX0_passHour cX0_passHour 4 (some .int) := ⟨⟨gw_426, gw_427, gw_428, gw_51⟩, gw_429⟩
theorem yv_X0_passHour : YV yX0_passHour RX0 2 := ⟨rfl, by decide +kernel, by decide +kernel, by decide +kernel⟩
theorem vl_X0_143 : VL RX0 143 RX0 yX0_countShower cX0_countShower 2 none := ⟨⟨gw_430, gw_432, gw_5, gw_51⟩, gw_433⟩
theorem yv_X0_countShower : YV yX0_countShower RX0 0 := ⟨rfl, by decide +kernel, by decide +kernel, by decide +kernel⟩
theorem vl_X0_146 : VL RX0 146 RX0 yX0_wearDown cX0_wearDown 7 (some .int) := ⟨⟨gw_434, gw_436, gw_6, gw_51⟩, gw_437⟩
theorem yv_X0_wearDown : YV yX0_wearDown RX0 2 := ⟨rfl, by decide +kernel, by decide +kernel, by decide +kernel⟩
theorem vl_X0_149 : VL RX0 149 RX0 yX0_surge cX0_surge 3 none := ⟨⟨gw_439, gw_441, gw_7, gw_51⟩, gw_442⟩
theorem yv_X0_surge : YV yX0_surge RX0 0 := ⟨rfl, by decide +kernel, by decide +kernel, by decide +kernel⟩
theorem vl_L_34 : VL "RibbedLoansLaw" 34 RX6 yX6_load cX6_load 5 (some .int) := ⟨⟨gw_443, gw_444, gw_445, gw_49⟩, gw_446⟩
theorem yv_X6_load : YV yX6_load RX6 3 := ⟨rfl, by decide +kernel, by decide +kernel, by decide +kernel⟩
theorem vl_X6_71 : VL RX6 71 RX0 yX0_loadingError cX0_loadingError 5 (some .int) := ⟨⟨gw_447, gw_448, gw_449, gw_51⟩, gw_450⟩
theorem yv_X0_loadingError : YV yX0_loadingError RX0 3 := ⟨rfl, by decide +kernel, by decide +kernel, by decide +kernel⟩
theorem vl_X6_75 : VL RX6 75 RX0 yX0_fillVan cX0_fillVan 7 (some .int) := ⟨⟨gw_451, gw_452, gw_453, gw_51⟩, gw_454⟩
theorem yv_X0_fillVan : YV yX0_fillVan RX0 3 := ⟨rfl, by decide +kernel, by decide +kernel, by decide +kernel⟩
theorem vl_X0_161 : VL RX0 161 RX5 yX5_worstAt cX5_worstAt 4 (some .int) := ⟨⟨gw_455, gw_456, gw_457, gw_52⟩, gw_458⟩
theorem yv_X5_worstAt : YV yX5_worstAt RX5 1 := ⟨rfl, by decide +kernel, by decide +kernel, by decide +kernel⟩
theorem vl_X0_164 : VL RX0 164 RX5 yX5_isBroken cX5_isBroken 2 (some .boolean) := ⟨⟨gw_459, gw_460, gw_461, gw_52⟩, gw_462⟩
theorem yv_X5_isBroken : YV yX5_isBroken RX5 1 := ⟨rfl, by decide +kernel, by decide +kernel, by decide +kernel⟩
theorem vl_L_39 : VL "RibbedLoansLaw" 39 RX6 yX6_unload cX6_unload 5 (some .int) := ⟨⟨gw_463, gw_464, gw_465, gw_49⟩, gw_466⟩
theorem yv_X6_unload : YV yX6_unload RX6 3 := ⟨rfl, by decide +kernel, by decide +kernel, by decide +kernel⟩
theorem vl_X6_78 : VL RX6 78 RX0 yX0_unloadingError cX0_unloadingError 4 (some .int) := ⟨⟨gw_467, gw_468, gw_469, gw_51⟩, gw_470⟩
theorem yv_X0_unloadingError : YV yX0_unloadingError RX0 3 := ⟨rfl, by decide +kernel, by decide +kernel, by decide +kernel⟩
theorem vl_X0_158 : VL RX0 158 RX5 yX5_wholeAt cX5_wholeAt 2 (some .int) := ⟨⟨gw_471, gw_472, gw_473, gw_52⟩, gw_474⟩
theorem yv_X5_wholeAt : YV yX5_wholeAt RX5 1 := ⟨rfl, by decide +kernel, by decide +kernel, by decide +kernel⟩
theorem vl_X5_57 : VL RX5 57 RX5 yX5_brokenAt cX5_brokenAt 4 (some .int) := ⟨⟨gw_475, gw_476, gw_477, gw_52⟩, gw_478⟩
theorem yv_X5_brokenAt : YV yX5_brokenAt RX5 1 := ⟨rfl, by decide +kernel, by decide +kernel, by decide +kernel⟩
theorem vl_X5_53 : VL RX5 53 RX5 yX5_isBroken cX5_isBroken 2 (some .boolean) := ⟨⟨gw_479, gw_460, gw_461, gw_52⟩, gw_462⟩
theorem vl_X6_81 : VL RX6 81 RX0 yX0_emptyVan cX0_emptyVan 6 (some .int) := ⟨⟨gw_480, gw_481, gw_482, gw_51⟩, gw_483⟩
theorem yv_X0_emptyVan : YV yX0_emptyVan RX0 3 := ⟨rfl, by decide +kernel, by decide +kernel, by decide +kernel⟩
theorem vl_L_43 : VL "RibbedLoansLaw" 43 RX6 yX6_toWorkshop cX6_toWorkshop 3 (some .int) := ⟨⟨gw_484, gw_485, gw_486, gw_49⟩, gw_487⟩
theorem yv_X6_toWorkshop : YV yX6_toWorkshop RX6 1 := ⟨rfl, by decide +kernel, by decide +kernel, by decide +kernel⟩
theorem vl_X6_84 : VL RX6 84 RX0 yX0_deliveringError cX0_deliveringError 2 (some .int) := ⟨⟨gw_488, gw_489, gw_490, gw_51⟩, gw_491⟩
theorem yv_X0_deliveringError : YV yX0_deliveringError RX0 1 := ⟨rfl, by decide +kernel, by decide +kernel, by decide +kernel⟩
theorem vl_X0_167 : VL RX0 167 RX5 yX5_brokenAt cX5_brokenAt 4 (some .int) := ⟨⟨gw_492, gw_476, gw_477, gw_52⟩, gw_478⟩
theorem vl_X6_88 : VL RX6 88 RX0 yX0_deliver cX0_deliver 4 (some .int) := ⟨⟨gw_493, gw_494, gw_495, gw_51⟩, gw_496⟩
theorem yv_X0_deliver : YV yX0_deliver RX0 1 := ⟨rfl, by decide +kernel, by decide +kernel, by decide +kernel⟩
theorem vl_L_48 : VL "RibbedLoansLaw" 48 RX6 yX6_mend cX6_mend 3 (some .int) := ⟨⟨gw_497, gw_498, gw_499, gw_49⟩, gw_500⟩
theorem yv_X6_mend : YV yX6_mend RX6 1 := ⟨rfl, by decide +kernel, by decide +kernel, by decide +kernel⟩
theorem vl_X6_91 : VL RX6 91 RX0 yX0_mendingError cX0_mendingError 2 (some .int) := ⟨⟨gw_501, gw_502, gw_503, gw_51⟩, gw_504⟩
theorem yv_X0_mendingError : YV yX0_mendingError RX0 1 := ⟨rfl, by decide +kernel, by decide +kernel, by decide +kernel⟩
theorem vl_X6_94 : VL RX6 94 RX0 yX0_mendOne cX0_mendOne 5 (some .int) := ⟨⟨gw_505, gw_506, gw_507, gw_51⟩, gw_508⟩
theorem yv_X0_mendOne : YV yX0_mendOne RX0 1 := ⟨rfl, by decide +kernel, by decide +kernel, by decide +kernel⟩
theorem vl_X0_170 : VL RX0 170 RX5 yX5_leastWornAt cX5_leastWornAt 7 (some .int) := ⟨⟨gw_509, gw_369, gw_370, gw_52⟩, gw_371⟩
theorem vl_L_52 : VL "RibbedLoansLaw" 52 RX6 yX6_level cX6_level 1 (some .int) := ⟨⟨gw_511, gw_512, gw_513, gw_49⟩, gw_514⟩
theorem yv_X6_level : YV yX6_level RX6 0 := ⟨rfl, by decide +kernel, by decide +kernel, by decide +kernel⟩
theorem vl_X6_97 : VL RX6 97 RX0 yX0_evenOut cX0_evenOut 6 (some .int) := ⟨⟨gw_515, gw_516, gw_517, gw_51⟩, gw_518⟩
theorem yv_X0_evenOut : YV yX0_evenOut RX0 0 := ⟨rfl, by decide +kernel, by decide +kernel, by decide +kernel⟩
theorem vl_X0_177 : VL RX0 177 RX0 yX0_fullest cX0_fullest 3 (some .int) := ⟨⟨gw_520, gw_522, gw_8, gw_51⟩, gw_523⟩
theorem yv_X0_fullest : YV yX0_fullest RX0 0 := ⟨rfl, by decide +kernel, by decide +kernel, by decide +kernel⟩
theorem vl_X0_180 : VL RX0 180 RX0 yX0_emptiestWithRoom cX0_emptiestWithRoom 4 (some .int) := ⟨⟨gw_524, gw_526, gw_9, gw_51⟩, gw_527⟩
theorem yv_X0_emptiestWithRoom : YV yX0_emptiestWithRoom RX0 0 := ⟨rfl, by decide +kernel, by decide +kernel, by decide +kernel⟩
theorem vl_L_57 : VL "RibbedLoansLaw" 57 RX6 yX6_take cX6_take 2 (some .int) := ⟨⟨gw_528, gw_529, gw_530, gw_49⟩, gw_531⟩
theorem yv_X6_take : YV yX6_take RX6 1 := ⟨rfl, by decide +kernel, by decide +kernel, by decide +kernel⟩
theorem vl_X6_101 : SL RX6 101 yX6_outside cX6_outside 3 (some .boolean) := ⟨⟨gw_532, gw_268, gw_49⟩, gw_269⟩
theorem yv_X6_outside : YV yX6_outside RX6 3 := ⟨rfl, by decide +kernel, by decide +kernel, by decide +kernel⟩
theorem vl_X6_105 : VL RX6 105 RX3 yX3_keep cX3_keep 2 none := ⟨⟨gw_533, gw_534, gw_535, gw_50⟩, gw_536⟩
theorem yv_X3_keep : YV yX3_keep RX3 1 := ⟨rfl, by decide +kernel, by decide +kernel, by decide +kernel⟩
theorem vl_X3_33 : VL RX3 33 RX3 yX3_snapshot cX3_snapshot 2 (some (.object "RibbedLoans$City")) := ⟨⟨gw_537, gw_539, gw_10, gw_50⟩, gw_540⟩
theorem yv_X3_snapshot : YV yX3_snapshot RX3 1 := ⟨rfl, by decide +kernel, by decide +kernel, by decide +kernel⟩
theorem vl_L_61 : VL "RibbedLoansLaw" 61 RX6 yX6_restore cX6_restore 2 (some .int) := ⟨⟨gw_541, gw_542, gw_543, gw_49⟩, gw_544⟩
theorem yv_X6_restore : YV yX6_restore RX6 1 := ⟨rfl, by decide +kernel, by decide +kernel, by decide +kernel⟩
theorem vl_X6_113 : VL RX6 113 RX3 yX3_isKept cX3_isKept 2 (some .boolean) := ⟨⟨gw_545, gw_546, gw_547, gw_50⟩, gw_548⟩
theorem yv_X3_isKept : YV yX3_isKept RX3 1 := ⟨rfl, by decide +kernel, by decide +kernel, by decide +kernel⟩
theorem vl_X6_117 : VL RX6 117 RX3 yX3_bringUp cX3_bringUp 2 none := ⟨⟨gw_549, gw_550, gw_551, gw_50⟩, gw_552⟩
theorem yv_X3_bringUp : YV yX3_bringUp RX3 1 := ⟨rfl, by decide +kernel, by decide +kernel, by decide +kernel⟩
theorem vl_L_65 : VL "RibbedLoansLaw" 65 RX6 yX6_undo cX6_undo 1 (some .int) := ⟨⟨gw_553, gw_554, gw_555, gw_49⟩, gw_556⟩
theorem yv_X6_undo : YV yX6_undo RX6 0 := ⟨rfl, by decide +kernel, by decide +kernel, by decide +kernel⟩
theorem vl_X6_123 : VL RX6 123 RX1 yX1_moveLatestTo cX1_moveLatestTo 3 none := ⟨⟨gw_557, gw_558, gw_559, gw_56⟩, gw_560⟩
theorem yv_X1_moveLatestTo : YV yX1_moveLatestTo RX1 1 := ⟨rfl, by decide +kernel, by decide +kernel, by decide +kernel⟩
theorem vl_L_69 : VL "RibbedLoansLaw" 69 RX6 yX6_append cX6_append 2 (some .int) := ⟨⟨gw_561, gw_562, gw_563, gw_49⟩, gw_564⟩
theorem yv_X6_append : YV yX6_append RX6 1 := ⟨rfl, by decide +kernel, by decide +kernel, by decide +kernel⟩
theorem vl_X6_129 : VL RX6 129 RX4 yX4_add cX4_add 2 none := ⟨⟨gw_565, gw_566, gw_567, gw_57⟩, gw_568⟩
theorem yv_X4_add : YV yX4_add RX4 1 := ⟨rfl, by decide +kernel, by decide +kernel, by decide +kernel⟩
theorem vl_L_73 : VL "RibbedLoansLaw" 73 RX6 yX6_clearText cX6_clearText 2 (some .int) := ⟨⟨gw_569, gw_570, gw_571, gw_49⟩, gw_572⟩
theorem yv_X6_clearText : YV yX6_clearText RX6 0 := ⟨rfl, by decide +kernel, by decide +kernel, by decide +kernel⟩
theorem vl_L_77 : VL "RibbedLoansLaw" 77 RX6 yX6_carryOut cX6_carryOut 3 (some .int) := ⟨⟨gw_573, gw_574, gw_575, gw_49⟩, gw_576⟩
theorem yv_X6_carryOut : YV yX6_carryOut RX6 0 := ⟨rfl, by decide +kernel, by decide +kernel, by decide +kernel⟩
theorem vl_X6_132 : VL RX6 132 RX4 yX4_fault cX4_fault 2 (some .int) := ⟨⟨gw_577, gw_578, gw_579, gw_57⟩, gw_580⟩
theorem yv_X4_fault : YV yX4_fault RX4 0 := ⟨rfl, by decide +kernel, by decide +kernel, by decide +kernel⟩
theorem vl_X4_19 : VL RX4 19 RX4 yX4_rewind cX4_rewind 1 none := ⟨⟨gw_581, gw_582, gw_583, gw_57⟩, gw_584⟩
theorem yv_X4_rewind : YV yX4_rewind RX4 0 := ⟨rfl, by decide +kernel, by decide +kernel, by decide +kernel⟩
theorem vl_X4_22 : VL RX4 22 RX4 yX4_readOrder cX4_readOrder 1 (some .boolean) := ⟨⟨gw_585, gw_586, gw_587, gw_57⟩, gw_588⟩
theorem yv_X4_readOrder : YV yX4_readOrder RX4 0 := ⟨rfl, by decide +kernel, by decide +kernel, by decide +kernel⟩
theorem vl_X4_33 : VL RX4 33 RX4 yX4_peek cX4_peek 2 (some .int) := ⟨⟨gw_589, gw_591, gw_11, gw_57⟩, gw_592⟩
theorem yv_X4_peek : YV yX4_peek RX4 0 := ⟨rfl, by decide +kernel, by decide +kernel, by decide +kernel⟩
theorem vl_X4_40 : VL RX4 40 RX4 yX4_readNumbers cX4_readNumbers 2 (some .boolean) := ⟨⟨gw_593, gw_595, gw_12, gw_57⟩, gw_596⟩
theorem yv_X4_readNumbers : YV yX4_readNumbers RX4 1 := ⟨rfl, by decide +kernel, by decide +kernel, by decide +kernel⟩
theorem vl_X4_43 : VL RX4 43 RX4 yX4_readNumber cX4_readNumber 3 (some .int) := ⟨⟨gw_597, gw_599, gw_13, gw_57⟩, gw_600⟩
theorem yv_X4_readNumber : YV yX4_readNumber RX4 0 := ⟨rfl, by decide +kernel, by decide +kernel, by decide +kernel⟩
theorem vl_X4_52 : VL RX4 52 RX4 yX4_readDigit cX4_readDigit 2 (some .int) := ⟨⟨gw_601, gw_603, gw_14, gw_57⟩, gw_604⟩
theorem yv_X4_readDigit : YV yX4_readDigit RX4 0 := ⟨rfl, by decide +kernel, by decide +kernel, by decide +kernel⟩
theorem vl_X4_29 : VL RX4 29 RX4 yX4_accept cX4_accept 2 (some .boolean) := ⟨⟨gw_606, gw_607, gw_608, gw_57⟩, gw_609⟩
theorem yv_X4_accept : YV yX4_accept RX4 1 := ⟨rfl, by decide +kernel, by decide +kernel, by decide +kernel⟩
theorem vl_X6_135 : VL RX6 135 RX4 yX4_rewind cX4_rewind 1 none := ⟨⟨gw_610, gw_582, gw_583, gw_57⟩, gw_584⟩
theorem vl_X6_138 : VL RX6 138 RX4 yX4_readOrder cX4_readOrder 1 (some .boolean) := ⟨⟨gw_611, gw_586, gw_587, gw_57⟩, gw_588⟩
theorem vl_X6_142 : VL RX6 142 RX6 yX6_obey cX6_obey 5 (some .int) := ⟨⟨gw_612, gw_614, gw_15, gw_49⟩, gw_615⟩
theorem yv_X6_obey : YV yX6_obey RX6 0 := ⟨rfl, by decide +kernel, by decide +kernel, by decide +kernel⟩
theorem vl_X6_145 : VL RX6 145 RX4 yX4_accept cX4_accept 2 (some .boolean) := ⟨⟨gw_616, gw_607, gw_608, gw_57⟩, gw_609⟩
theorem vl_L_81 : VL "RibbedLoansLaw" 81 RX6 yX6_count cX6_count 4 (some .int) := ⟨⟨gw_617, gw_618, gw_619, gw_49⟩, gw_620⟩
theorem yv_X6_count : YV yX6_count RX6 1 := ⟨rfl, by decide +kernel, by decide +kernel, by decide +kernel⟩
theorem vl_X6_167 : VL RX6 167 RX5 yX5_numberOfKind cX5_numberOfKind 4 (some .int) := ⟨⟨gw_621, gw_275, gw_276, gw_52⟩, gw_277⟩
theorem vl_X6_170 : VL RX6 170 RX5 yX5_numberBroken cX5_numberBroken 3 (some .int) := ⟨⟨gw_622, gw_623, gw_624, gw_52⟩, gw_625⟩
theorem yv_X5_numberBroken : YV yX5_numberBroken RX5 0 := ⟨rfl, by decide +kernel, by decide +kernel, by decide +kernel⟩
theorem vl_X6_180 : VL RX6 180 RX2 yX2_sum cX2_sum 6 (some .int) := ⟨⟨gw_626, gw_627, gw_628, gw_53⟩, gw_629⟩
theorem yv_X2_sum : YV yX2_sum RX2 0 := ⟨rfl, by decide +kernel, by decide +kernel, by decide +kernel⟩
theorem vl_X6_200 : VL RX6 200 RX3 yX3_numberKept cX3_numberKept 1 (some .int) := ⟨⟨gw_630, gw_631, gw_632, gw_50⟩, gw_633⟩
theorem yv_X3_numberKept : YV yX3_numberKept RX3 0 := ⟨rfl, by decide +kernel, by decide +kernel, by decide +kernel⟩
theorem vl_L_85 : VL "RibbedLoansLaw" 85 RX6 yX6_umbrella cX6_umbrella 5 (some .int) := ⟨⟨gw_634, gw_635, gw_636, gw_49⟩, gw_637⟩
theorem yv_X6_umbrella : YV yX6_umbrella RX6 2 := ⟨rfl, by decide +kernel, by decide +kernel, by decide +kernel⟩
theorem vl_X6_206 : VL RX6 206 RX2 yX2_at cX2_at 2 (some .int) := ⟨⟨gw_638, gw_286, gw_287, gw_53⟩, gw_288⟩
theorem vl_X6_209 : SL RX6 209 yX6_kindOf cX6_kindOf 1 (some .int) := ⟨⟨gw_639, gw_279, gw_49⟩, gw_280⟩
theorem yv_X6_kindOf : YV yX6_kindOf RX6 1 := ⟨rfl, by decide +kernel, by decide +kernel, by decide +kernel⟩
theorem vl_X6_212 : SL RX6 212 yX6_ownerOf cX6_ownerOf 1 (some .int) := ⟨⟨gw_640, gw_641, gw_49⟩, gw_642⟩
theorem yv_X6_ownerOf : YV yX6_ownerOf RX6 1 := ⟨rfl, by decide +kernel, by decide +kernel, by decide +kernel⟩
theorem vl_X6_218 : VL RX6 218 RX5 yX5_isBroken cX5_isBroken 2 (some .boolean) := ⟨⟨gw_643, gw_460, gw_461, gw_52⟩, gw_462⟩
theorem vl_L_89 : VL "RibbedLoansLaw" 89 RX6 yX6_stand cX6_stand 4 (some .int) := ⟨⟨gw_644, gw_645, gw_646, gw_49⟩, gw_647⟩
theorem yv_X6_stand : YV yX6_stand RX6 2 := ⟨rfl, by decide +kernel, by decide +kernel, by decide +kernel⟩
theorem vl_X6_227 : VL RX6 227 RX5 yX5_numberAt cX5_numberAt 2 (some .int) := ⟨⟨gw_648, gw_282, gw_283, gw_52⟩, gw_284⟩
theorem vl_X6_230 : VL RX6 230 RX5 yX5_brokenAt cX5_brokenAt 4 (some .int) := ⟨⟨gw_649, gw_476, gw_477, gw_52⟩, gw_478⟩
theorem vl_X6_233 : VL RX6 233 RX5 yX5_bestAt cX5_bestAt 2 (some .int) := ⟨⟨gw_650, gw_365, gw_366, gw_52⟩, gw_367⟩
theorem vl_X6_236 : VL RX6 236 RX5 yX5_worstAt cX5_worstAt 4 (some .int) := ⟨⟨gw_651, gw_456, gw_457, gw_52⟩, gw_458⟩
theorem vl_X6_239 : VL RX6 239 RX5 yX5_meanWearAt cX5_meanWearAt 5 (some .int) := ⟨⟨gw_652, gw_653, gw_654, gw_52⟩, gw_655⟩
theorem yv_X5_meanWearAt : YV yX5_meanWearAt RX5 1 := ⟨rfl, by decide +kernel, by decide +kernel, by decide +kernel⟩
theorem vl_L_93 : VL "RibbedLoansLaw" 93 RX6 yX6_person cX6_person 5 (some .int) := ⟨⟨gw_656, gw_657, gw_658, gw_49⟩, gw_659⟩
theorem yv_X6_person : YV yX6_person RX6 2 := ⟨rfl, by decide +kernel, by decide +kernel, by decide +kernel⟩
theorem vl_X6_242 : VL RX6 242 RX0 yX0_inHand cX0_inHand 2 (some .int) := ⟨⟨gw_660, gw_406, gw_407, gw_51⟩, gw_408⟩
theorem vl_L_97 : VL "RibbedLoansLaw" 97 RX6 yX6_inVan cX6_inVan 3 (some .int) := ⟨⟨gw_661, gw_662, gw_663, gw_49⟩, gw_664⟩
theorem yv_X6_inVan : YV yX6_inVan RX6 2 := ⟨rfl, by decide +kernel, by decide +kernel, by decide +kernel⟩
theorem vl_X6_251 : VL RX6 251 RX5 yX5_nthAt cX5_nthAt 5 (some .int) := ⟨⟨gw_665, gw_410, gw_411, gw_52⟩, gw_412⟩
theorem vl_L_101 : VL "RibbedLoansLaw" 101 RX6 yX6_feeIn cX6_feeIn 4 (some .int) := ⟨⟨gw_666, gw_667, gw_668, gw_49⟩, gw_669⟩
theorem yv_X6_feeIn : YV yX6_feeIn RX6 3 := ⟨rfl, by decide +kernel, by decide +kernel, by decide +kernel⟩
theorem vl_X6_254 : VL RX6 254 RX0 yX0_hasOne cX0_hasOne 2 (some .boolean) := ⟨⟨gw_670, gw_394, gw_395, gw_51⟩, gw_396⟩
theorem vl_X6_257 : VL RX6 257 RX0 yX0_feeAfter cX0_feeAfter 7 (some .int) := ⟨⟨gw_671, gw_402, gw_403, gw_51⟩, gw_404⟩
theorem vl_L_105 : VL "RibbedLoansLaw" 105 RX6 yX6_breaksIn cX6_breaksIn 4 (some .int) := ⟨⟨gw_672, gw_673, gw_674, gw_49⟩, gw_675⟩
theorem yv_X6_breaksIn : YV yX6_breaksIn RX6 3 := ⟨rfl, by decide +kernel, by decide +kernel, by decide +kernel⟩
theorem vl_X6_260 : VL RX6 260 RX0 yX0_hoursToBreak cX0_hoursToBreak 6 (some .int) := ⟨⟨gw_676, gw_677, gw_678, gw_51⟩, gw_679⟩
theorem yv_X0_hoursToBreak : YV yX0_hoursToBreak RX0 3 := ⟨rfl, by decide +kernel, by decide +kernel, by decide +kernel⟩
theorem vl_L_109 : VL "RibbedLoansLaw" 109 RX6 yX6_emptied cX6_emptied 3 (some .int) := ⟨⟨gw_680, gw_681, gw_682, gw_49⟩, gw_683⟩
theorem yv_X6_emptied : YV yX6_emptied RX6 0 := ⟨rfl, by decide +kernel, by decide +kernel, by decide +kernel⟩
theorem vl_X6_263 : VL RX6 263 RX0 yX0_lackAt cX0_lackAt 4 (some .int) := ⟨⟨gw_684, gw_685, gw_686, gw_51⟩, gw_687⟩
theorem yv_X0_lackAt : YV yX0_lackAt RX0 1 := ⟨rfl, by decide +kernel, by decide +kernel, by decide +kernel⟩
theorem vl_L_113 : VL "RibbedLoansLaw" 113 RX6 yX6_shortest cX6_shortest 6 (some .int) := ⟨⟨gw_688, gw_689, gw_690, gw_49⟩, gw_691⟩
theorem yv_X6_shortest : YV yX6_shortest RX6 1 := ⟨rfl, by decide +kernel, by decide +kernel, by decide +kernel⟩
theorem vl_L_12 : IL "RibbedLoansLaw" 12 RX7 yX7_init cX7_init 2 := ⟨⟨gw_694, gw_695, gw_58⟩, gw_696⟩
theorem yv_X7_init : YV yX7_init RX7 0 := ⟨rfl, by decide +kernel, by decide +kernel, by decide +kernel⟩
theorem vl_L_17 : VL "RibbedLoansLaw" 17 RX7 yX7_buy cX7_buy 5 (some .int) := ⟨⟨gw_732, gw_733, gw_734, gw_58⟩, gw_735⟩
theorem yv_X7_buy : YV yX7_buy RX7 2 := ⟨rfl, by decide +kernel, by decide +kernel, by decide +kernel⟩
theorem vl_X7_45 : SL RX7 45 yX7_isStand cX7_isStand 1 (some .boolean) := ⟨⟨gw_736, gw_737, gw_58⟩, gw_738⟩
theorem yv_X7_isStand : YV yX7_isStand RX7 1 := ⟨rfl, by decide +kernel, by decide +kernel, by decide +kernel⟩
theorem vl_X7_22 : SL RX7 22 yX7_in cX7_in 3 (some .boolean) := ⟨⟨gw_739, gw_740, gw_58⟩, gw_741⟩
theorem yv_X7_in : YV yX7_in RX7 3 := ⟨rfl, by decide +kernel, by decide +kernel, by decide +kernel⟩
theorem vl_X7_48 : VL RX7 48 RX7 yX7_canSpend cX7_canSpend 2 (some .boolean) := ⟨⟨gw_742, gw_744, gw_16, gw_58⟩, gw_745⟩
theorem yv_X7_canSpend : YV yX7_canSpend RX7 1 := ⟨rfl, by decide +kernel, by decide +kernel, by decide +kernel⟩
theorem vl_X7_41 : VL RX7 41 RX7 yX7_manyIn cX7_manyIn 4 (some .int) := ⟨⟨gw_746, gw_748, gw_17, gw_58⟩, gw_749⟩
theorem yv_X7_manyIn : YV yX7_manyIn RX7 1 := ⟨rfl, by decide +kernel, by decide +kernel, by decide +kernel⟩
theorem vl_X7_51 : VL RX7 51 RX7 yX7_roomOf cX7_roomOf 2 (some .int) := ⟨⟨gw_750, gw_752, gw_18, gw_58⟩, gw_753⟩
theorem yv_X7_roomOf : YV yX7_roomOf RX7 1 := ⟨rfl, by decide +kernel, by decide +kernel, by decide +kernel⟩
theorem vl_X7_37 : VL RX7 37 RX7 yX7_manyAt cX7_manyAt 5 (some .int) := ⟨⟨gw_754, gw_756, gw_19, gw_58⟩, gw_757⟩
theorem yv_X7_manyAt : YV yX7_manyAt RX7 2 := ⟨rfl, by decide +kernel, by decide +kernel, by decide +kernel⟩
theorem vl_X7_30 : VL RX7 30 RX7 yX7_isAt cX7_isAt 4 (some .boolean) := ⟨⟨gw_758, gw_760, gw_20, gw_58⟩, gw_761⟩
theorem yv_X7_isAt : YV yX7_isAt RX7 3 := ⟨rfl, by decide +kernel, by decide +kernel, by decide +kernel⟩
theorem vl_X7_54 : VL RX7 54 RX7 yX7_save cX7_save 2 none := ⟨⟨gw_762, gw_764, gw_21, gw_58⟩, gw_765⟩
theorem yv_X7_save : YV yX7_save RX7 0 := ⟨rfl, by decide +kernel, by decide +kernel, by decide +kernel⟩
theorem vl_X7_57 : VL RX7 57 RX7 yX7_goes cX7_goes 4 none := ⟨⟨gw_766, gw_768, gw_22, gw_58⟩, gw_769⟩
theorem yv_X7_goes : YV yX7_goes RX7 3 := ⟨rfl, by decide +kernel, by decide +kernel, by decide +kernel⟩
theorem vl_X7_61 : VL RX7 61 RX7 yX7_spends cX7_spends 2 none := ⟨⟨gw_770, gw_772, gw_23, gw_58⟩, gw_773⟩
theorem yv_X7_spends : YV yX7_spends RX7 1 := ⟨rfl, by decide +kernel, by decide +kernel, by decide +kernel⟩
theorem vl_L_21 : VL "RibbedLoansLaw" 21 RX7 yX7_set cX7_set 5 (some .int) := ⟨⟨gw_774, gw_775, gw_776, gw_58⟩, gw_777⟩
theorem yv_X7_set : YV yX7_set RX7 2 := ⟨rfl, by decide +kernel, by decide +kernel, by decide +kernel⟩
theorem vl_L_25 : VL "RibbedLoansLaw" 25 RX7 yX7_borrow cX7_borrow 4 (some .int) := ⟨⟨gw_778, gw_779, gw_780, gw_58⟩, gw_781⟩
theorem yv_X7_borrow : YV yX7_borrow RX7 2 := ⟨rfl, by decide +kernel, by decide +kernel, by decide +kernel⟩
theorem vl_X7_74 : VL RX7 74 RX7 yX7_whyBorrow cX7_whyBorrow 3 (some .int) := ⟨⟨gw_782, gw_784, gw_24, gw_58⟩, gw_785⟩
theorem yv_X7_whyBorrow : YV yX7_whyBorrow RX7 2 := ⟨rfl, by decide +kernel, by decide +kernel, by decide +kernel⟩
theorem vl_X7_65 : SL RX7 65 yX7_isPerson cX7_isPerson 1 (some .boolean) := ⟨⟨gw_786, gw_787, gw_58⟩, gw_788⟩
theorem yv_X7_isPerson : YV yX7_isPerson RX7 1 := ⟨rfl, by decide +kernel, by decide +kernel, by decide +kernel⟩
theorem vl_X7_68 : VL RX7 68 RX7 yX7_canBorrow cX7_canBorrow 2 (some .boolean) := ⟨⟨gw_789, gw_791, gw_25, gw_58⟩, gw_792⟩
theorem yv_X7_canBorrow : YV yX7_canBorrow RX7 1 := ⟨rfl, by decide +kernel, by decide +kernel, by decide +kernel⟩
theorem vl_X7_71 : VL RX7 71 RX7 yX7_bestOf cX7_bestOf 5 (some .int) := ⟨⟨gw_793, gw_795, gw_26, gw_58⟩, gw_796⟩
theorem yv_X7_bestOf : YV yX7_bestOf RX7 1 := ⟨rfl, by decide +kernel, by decide +kernel, by decide +kernel⟩
theorem vl_X7_33 : VL RX7 33 RX7 yX7_isBroken cX7_isBroken 2 (some .boolean) := ⟨⟨gw_797, gw_799, gw_27, gw_58⟩, gw_800⟩
theorem yv_X7_isBroken : YV yX7_isBroken RX7 1 := ⟨rfl, by decide +kernel, by decide +kernel, by decide +kernel⟩
theorem vl_X7_77 : VL RX7 77 RX7 yX7_borrows cX7_borrows 4 (some .int) := ⟨⟨gw_801, gw_803, gw_28, gw_58⟩, gw_804⟩
theorem yv_X7_borrows : YV yX7_borrows RX7 2 := ⟨rfl, by decide +kernel, by decide +kernel, by decide +kernel⟩
theorem vl_L_29 : VL "RibbedLoansLaw" 29 RX7 yX7_bringBack cX7_bringBack 4 (some .int) := ⟨⟨gw_805, gw_806, gw_807, gw_58⟩, gw_808⟩
theorem yv_X7_bringBack : YV yX7_bringBack RX7 2 := ⟨rfl, by decide +kernel, by decide +kernel, by decide +kernel⟩
theorem vl_X7_84 : VL RX7 84 RX7 yX7_whyBring cX7_whyBring 3 (some .int) := ⟨⟨gw_809, gw_811, gw_29, gw_58⟩, gw_812⟩
theorem yv_X7_whyBring : YV yX7_whyBring RX7 2 := ⟨rfl, by decide +kernel, by decide +kernel, by decide +kernel⟩
theorem vl_X7_87 : VL RX7 87 RX7 yX7_brings cX7_brings 4 (some .int) := ⟨⟨gw_813, gw_815, gw_30, gw_58⟩, gw_816⟩
theorem yv_X7_brings : YV yX7_brings RX7 2 := ⟨rfl, by decide +kernel, by decide +kernel, by decide +kernel⟩
theorem vl_X7_80 : VL RX7 80 RX7 yX7_fee cX7_fee 4 (some .int) := ⟨⟨gw_817, gw_819, gw_31, gw_58⟩, gw_820⟩
theorem yv_X7_fee : YV yX7_fee RX7 2 := ⟨rfl, by decide +kernel, by decide +kernel, by decide +kernel⟩
theorem vl_L_33 : VL "RibbedLoansLaw" 33 RX7 yX7_hour cX7_hour 4 (some .int) := ⟨⟨gw_821, gw_822, gw_823, gw_58⟩, gw_824⟩
theorem yv_X7_hour : YV yX7_hour RX7 2 := ⟨rfl, by decide +kernel, by decide +kernel, by decide +kernel⟩
theorem vl_X7_94 : VL RX7 94 RX7 yX7_whyHour cX7_whyHour 3 (some .int) := ⟨⟨gw_825, gw_827, gw_32, gw_58⟩, gw_828⟩
theorem yv_X7_whyHour : YV yX7_whyHour RX7 2 := ⟨rfl, by decide +kernel, by decide +kernel, by decide +kernel⟩
theorem vl_X7_97 : VL RX7 97 RX7 yX7_passes cX7_passes 8 (some .int) := ⟨⟨gw_829, gw_831, gw_33, gw_58⟩, gw_832⟩
theorem yv_X7_passes : YV yX7_passes RX7 2 := ⟨rfl, by decide +kernel, by decide +kernel, by decide +kernel⟩
theorem vl_X7_90 : SL RX7 90 yX7_worn cX7_worn 4 (some .int) := ⟨⟨gw_833, gw_834, gw_58⟩, gw_835⟩
theorem yv_X7_worn : YV yX7_worn RX7 3 := ⟨rfl, by decide +kernel, by decide +kernel, by decide +kernel⟩
theorem vl_L_38 : VL "RibbedLoansLaw" 38 RX7 yX7_load cX7_load 7 (some .int) := ⟨⟨gw_836, gw_837, gw_838, gw_58⟩, gw_839⟩
theorem yv_X7_load : YV yX7_load RX7 3 := ⟨rfl, by decide +kernel, by decide +kernel, by decide +kernel⟩
theorem vl_X7_100 : SL RX7 100 yX7_isLoad cX7_isLoad 3 (some .boolean) := ⟨⟨gw_840, gw_841, gw_58⟩, gw_842⟩
theorem yv_X7_isLoad : YV yX7_isLoad RX7 3 := ⟨rfl, by decide +kernel, by decide +kernel, by decide +kernel⟩
theorem vl_X7_103 : VL RX7 103 RX7 yX7_worstOf cX7_worstOf 5 (some .int) := ⟨⟨gw_843, gw_845, gw_34, gw_58⟩, gw_846⟩
theorem yv_X7_worstOf : YV yX7_worstOf RX7 1 := ⟨rfl, by decide +kernel, by decide +kernel, by decide +kernel⟩
theorem vl_L_42 : VL "RibbedLoansLaw" 42 RX7 yX7_unload cX7_unload 6 (some .int) := ⟨⟨gw_847, gw_848, gw_849, gw_58⟩, gw_850⟩
theorem yv_X7_unload : YV yX7_unload RX7 3 := ⟨rfl, by decide +kernel, by decide +kernel, by decide +kernel⟩
theorem vl_X7_106 : VL RX7 106 RX7 yX7_brokenAt cX7_brokenAt 5 (some .int) := ⟨⟨gw_851, gw_853, gw_35, gw_58⟩, gw_854⟩
theorem yv_X7_brokenAt : YV yX7_brokenAt RX7 2 := ⟨rfl, by decide +kernel, by decide +kernel, by decide +kernel⟩
theorem vl_L_47 : VL "RibbedLoansLaw" 47 RX7 yX7_toWorkshop cX7_toWorkshop 4 (some .int) := ⟨⟨gw_855, gw_856, gw_857, gw_58⟩, gw_858⟩
theorem yv_X7_toWorkshop : YV yX7_toWorkshop RX7 1 := ⟨rfl, by decide +kernel, by decide +kernel, by decide +kernel⟩
theorem vl_L_51 : VL "RibbedLoansLaw" 51 RX7 yX7_mend cX7_mend 6 (some .int) := ⟨⟨gw_859, gw_860, gw_861, gw_58⟩, gw_862⟩
theorem yv_X7_mend : YV yX7_mend RX7 1 := ⟨rfl, by decide +kernel, by decide +kernel, by decide +kernel⟩
theorem vl_X7_109 : VL RX7 109 RX7 yX7_leastInShop cX7_leastInShop 5 (some .int) := ⟨⟨gw_863, gw_865, gw_36, gw_58⟩, gw_866⟩
theorem yv_X7_leastInShop : YV yX7_leastInShop RX7 1 := ⟨rfl, by decide +kernel, by decide +kernel, by decide +kernel⟩
theorem vl_L_56 : VL "RibbedLoansLaw" 56 RX7 yX7_level cX7_level 1 (some .int) := ⟨⟨gw_867, gw_868, gw_869, gw_58⟩, gw_870⟩
theorem yv_X7_level : YV yX7_level RX7 0 := ⟨rfl, by decide +kernel, by decide +kernel, by decide +kernel⟩
theorem vl_X7_112 : VL RX7 112 RX7 yX7_levels cX7_levels 7 (some .int) := ⟨⟨gw_871, gw_873, gw_37, gw_58⟩, gw_874⟩
theorem yv_X7_levels : YV yX7_levels RX7 0 := ⟨rfl, by decide +kernel, by decide +kernel, by decide +kernel⟩
theorem vl_L_60 : VL "RibbedLoansLaw" 60 RX7 yX7_take cX7_take 4 (some .int) := ⟨⟨gw_875, gw_876, gw_877, gw_58⟩, gw_878⟩
theorem yv_X7_take : YV yX7_take RX7 1 := ⟨rfl, by decide +kernel, by decide +kernel, by decide +kernel⟩
theorem vl_L_64 : VL "RibbedLoansLaw" 64 RX7 yX7_restore cX7_restore 4 (some .int) := ⟨⟨gw_879, gw_880, gw_881, gw_58⟩, gw_882⟩
theorem yv_X7_restore : YV yX7_restore RX7 1 := ⟨rfl, by decide +kernel, by decide +kernel, by decide +kernel⟩
theorem vl_L_68 : VL "RibbedLoansLaw" 68 RX7 yX7_undo cX7_undo 2 (some .int) := ⟨⟨gw_883, gw_884, gw_885, gw_58⟩, gw_886⟩
theorem yv_X7_undo : YV yX7_undo RX7 0 := ⟨rfl, by decide +kernel, by decide +kernel, by decide +kernel⟩
theorem vl_L_72 : VL "RibbedLoansLaw" 72 RX7 yX7_append cX7_append 2 (some .int) := ⟨⟨gw_887, gw_888, gw_889, gw_58⟩, gw_890⟩
theorem yv_X7_append : YV yX7_append RX7 1 := ⟨rfl, by decide +kernel, by decide +kernel, by decide +kernel⟩
theorem vl_L_76 : VL "RibbedLoansLaw" 76 RX7 yX7_clearText cX7_clearText 2 (some .int) := ⟨⟨gw_891, gw_892, gw_893, gw_58⟩, gw_894⟩
theorem yv_X7_clearText : YV yX7_clearText RX7 0 := ⟨rfl, by decide +kernel, by decide +kernel, by decide +kernel⟩
theorem vl_L_80 : VL "RibbedLoansLaw" 80 RX7 yX7_carryOut cX7_carryOut 4 (some .int) := ⟨⟨gw_895, gw_896, gw_897, gw_58⟩, gw_898⟩
theorem yv_X7_carryOut : YV yX7_carryOut RX7 0 := ⟨rfl, by decide +kernel, by decide +kernel, by decide +kernel⟩
theorem vl_X7_146 : VL RX7 146 RX7 yX7_faultOf cX7_faultOf 2 (some .int) := ⟨⟨gw_899, gw_901, gw_38, gw_58⟩, gw_902⟩
theorem yv_X7_faultOf : YV yX7_faultOf RX7 0 := ⟨rfl, by decide +kernel, by decide +kernel, by decide +kernel⟩
theorem vl_X7_143 : VL RX7 143 RX7 yX7_readOrder cX7_readOrder 1 (some .boolean) := ⟨⟨gw_903, gw_905, gw_39, gw_58⟩, gw_906⟩
theorem yv_X7_readOrder : YV yX7_readOrder RX7 0 := ⟨rfl, by decide +kernel, by decide +kernel, by decide +kernel⟩
theorem vl_X7_122 : VL RX7 122 RX7 yX7_here cX7_here 1 (some .int) := ⟨⟨gw_907, gw_909, gw_40, gw_58⟩, gw_910⟩
theorem yv_X7_here : YV yX7_here RX7 0 := ⟨rfl, by decide +kernel, by decide +kernel, by decide +kernel⟩
theorem vl_X7_131 : VL RX7 131 RX7 yX7_readNumber cX7_readNumber 1 (some .boolean) := ⟨⟨gw_911, gw_913, gw_41, gw_58⟩, gw_914⟩
theorem yv_X7_readNumber : YV yX7_readNumber RX7 0 := ⟨rfl, by decide +kernel, by decide +kernel, by decide +kernel⟩
theorem vl_X7_138 : VL RX7 138 RX7 yX7_passes_ cX7_passes_ 3 (some .boolean) := ⟨⟨gw_915, gw_917, gw_42, gw_58⟩, gw_918⟩
theorem yv_X7_passes_ : YV yX7_passes_ RX7 1 := ⟨rfl, by decide +kernel, by decide +kernel, by decide +kernel⟩
theorem vl_X7_149 : VL RX7 149 RX7 yX7_does cX7_does 3 (some .boolean) := ⟨⟨gw_919, gw_921, gw_43, gw_58⟩, gw_922⟩
theorem yv_X7_does : YV yX7_does RX7 0 := ⟨rfl, by decide +kernel, by decide +kernel, by decide +kernel⟩
theorem vl_L_84 : VL "RibbedLoansLaw" 84 RX7 yX7_count cX7_count 2 (some .int) := ⟨⟨gw_923, gw_924, gw_925, gw_58⟩, gw_926⟩
theorem yv_X7_count : YV yX7_count RX7 1 := ⟨rfl, by decide +kernel, by decide +kernel, by decide +kernel⟩
theorem vl_X7_152 : VL RX7 152 RX7 yX7_brokenOnes cX7_brokenOnes 3 (some .int) := ⟨⟨gw_927, gw_929, gw_44, gw_58⟩, gw_930⟩
theorem yv_X7_brokenOnes : YV yX7_brokenOnes RX7 0 := ⟨rfl, by decide +kernel, by decide +kernel, by decide +kernel⟩
theorem vl_X7_155 : VL RX7 155 RX7 yX7_coinsOfPersons cX7_coinsOfPersons 3 (some .int) := ⟨⟨gw_931, gw_933, gw_45, gw_58⟩, gw_934⟩
theorem yv_X7_coinsOfPersons : YV yX7_coinsOfPersons RX7 0 := ⟨rfl, by decide +kernel, by decide +kernel, by decide +kernel⟩
theorem vl_L_88 : VL "RibbedLoansLaw" 88 RX7 yX7_umbrella cX7_umbrella 3 (some .int) := ⟨⟨gw_935, gw_936, gw_937, gw_58⟩, gw_938⟩
theorem yv_X7_umbrella : YV yX7_umbrella RX7 2 := ⟨rfl, by decide +kernel, by decide +kernel, by decide +kernel⟩
theorem vl_L_92 : VL "RibbedLoansLaw" 92 RX7 yX7_stand cX7_stand 3 (some .int) := ⟨⟨gw_939, gw_940, gw_941, gw_58⟩, gw_942⟩
theorem yv_X7_stand : YV yX7_stand RX7 2 := ⟨rfl, by decide +kernel, by decide +kernel, by decide +kernel⟩
theorem vl_X7_158 : SL RX7 158 yX7_told cX7_told 1 (some .int) := ⟨⟨gw_943, gw_944, gw_58⟩, gw_945⟩
theorem yv_X7_told : YV yX7_told RX7 1 := ⟨rfl, by decide +kernel, by decide +kernel, by decide +kernel⟩
theorem vl_X7_161 : VL RX7 161 RX7 yX7_meanOf cX7_meanOf 4 (some .int) := ⟨⟨gw_946, gw_948, gw_46, gw_58⟩, gw_949⟩
theorem yv_X7_meanOf : YV yX7_meanOf RX7 1 := ⟨rfl, by decide +kernel, by decide +kernel, by decide +kernel⟩
theorem vl_L_96 : VL "RibbedLoansLaw" 96 RX7 yX7_person cX7_person 3 (some .int) := ⟨⟨gw_950, gw_951, gw_952, gw_58⟩, gw_953⟩
theorem yv_X7_person : YV yX7_person RX7 2 := ⟨rfl, by decide +kernel, by decide +kernel, by decide +kernel⟩
theorem vl_L_100 : VL "RibbedLoansLaw" 100 RX7 yX7_inVan cX7_inVan 5 (some .int) := ⟨⟨gw_954, gw_955, gw_956, gw_58⟩, gw_957⟩
theorem yv_X7_inVan : YV yX7_inVan RX7 2 := ⟨rfl, by decide +kernel, by decide +kernel, by decide +kernel⟩
theorem vl_L_104 : VL "RibbedLoansLaw" 104 RX7 yX7_feeIn cX7_feeIn 8 (some .int) := ⟨⟨gw_958, gw_959, gw_960, gw_58⟩, gw_961⟩
theorem yv_X7_feeIn : YV yX7_feeIn RX7 3 := ⟨rfl, by decide +kernel, by decide +kernel, by decide +kernel⟩
theorem vl_L_108 : VL "RibbedLoansLaw" 108 RX7 yX7_breaksIn cX7_breaksIn 7 (some .int) := ⟨⟨gw_962, gw_963, gw_964, gw_58⟩, gw_965⟩
theorem yv_X7_breaksIn : YV yX7_breaksIn RX7 3 := ⟨rfl, by decide +kernel, by decide +kernel, by decide +kernel⟩
theorem vl_L_112 : VL "RibbedLoansLaw" 112 RX7 yX7_emptied cX7_emptied 4 (some .int) := ⟨⟨gw_966, gw_967, gw_968, gw_58⟩, gw_969⟩
theorem yv_X7_emptied : YV yX7_emptied RX7 0 := ⟨rfl, by decide +kernel, by decide +kernel, by decide +kernel⟩
theorem vl_L_116 : VL "RibbedLoansLaw" 116 RX7 yX7_shortest cX7_shortest 7 (some .int) := ⟨⟨gw_970, gw_971, gw_972, gw_58⟩, gw_973⟩
theorem yv_X7_shortest : YV yX7_shortest RX7 1 := ⟨rfl, by decide +kernel, by decide +kernel, by decide +kernel⟩
theorem vl_X7_164 : VL RX7 164 RX7 yX7_wanting cX7_wanting 4 (some .int) := ⟨⟨gw_974, gw_976, gw_47, gw_58⟩, gw_977⟩
theorem yv_X7_wanting : YV yX7_wanting RX7 1 := ⟨rfl, by decide +kernel, by decide +kernel, by decide +kernel⟩
theorem vn_X6_11 : (Cond.instanceMethod yX3_init ∈ GW ∧ Cond.initialized yX3_init.cls ∈ GW) ∧ Cond.code yX3_init cX3_init 1 none ∈ GW := ⟨⟨gw_71, gw_50⟩, gw_72⟩
theorem yv_X3_init : YV yX3_init yX3_init.cls 0 := ⟨rfl, by decide +kernel, by decide +kernel, by decide +kernel⟩
theorem vn_X0_11 : (Cond.instanceMethod yX5_init ∈ GW ∧ Cond.initialized yX5_init.cls ∈ GW) ∧ Cond.code yX5_init cX5_init 1 none ∈ GW := ⟨⟨gw_83, gw_52⟩, gw_84⟩
theorem yv_X5_init : YV yX5_init yX5_init.cls 0 := ⟨rfl, by decide +kernel, by decide +kernel, by decide +kernel⟩
theorem vn_X1_17 : (Cond.instanceMethod yX3_init ∈ GW ∧ Cond.initialized yX3_init.cls ∈ GW) ∧ Cond.code yX3_init cX3_init 1 none ∈ GW := ⟨⟨gw_71, gw_50⟩, gw_72⟩
theorem vn_X6_25 : (Cond.instanceMethod yX4_init ∈ GW ∧ Cond.initialized yX4_init.cls ∈ GW) ∧ Cond.code yX4_init cX4_init 1 none ∈ GW := ⟨⟨gw_222, gw_57⟩, gw_223⟩
theorem yv_X4_init : YV yX4_init yX4_init.cls 0 := ⟨rfl, by decide +kernel, by decide +kernel, by decide +kernel⟩
theorem vn_X0_82 : (Cond.static yX6_outside ∈ GW ∧ Cond.initialized yX6_outside.cls ∈ GW) ∧ Cond.code yX6_outside cX6_outside 3 (some .boolean) ∈ GW := ⟨⟨gw_268, gw_49⟩, gw_269⟩
theorem vn_X5_47 : (Cond.static yX6_kindOf ∈ GW ∧ Cond.initialized yX6_kindOf.cls ∈ GW) ∧ Cond.code yX6_kindOf cX6_kindOf 1 (some .int) ∈ GW := ⟨⟨gw_279, gw_49⟩, gw_280⟩
theorem vn_X0_135 : (Cond.static yX6_wornBy ∈ GW ∧ Cond.initialized yX6_wornBy.cls ∈ GW) ∧ Cond.code yX6_wornBy cX6_wornBy 4 (some .int) ∈ GW := ⟨⟨gw_414, gw_49⟩, gw_415⟩
theorem yv_X6_wornBy : YV yX6_wornBy yX6_wornBy.cls 3 := ⟨rfl, by decide +kernel, by decide +kernel, by decide +kernel⟩
theorem vn_X0_155 : (Cond.static yX6_kindOf ∈ GW ∧ Cond.initialized yX6_kindOf.cls ∈ GW) ∧ Cond.code yX6_kindOf cX6_kindOf 1 (some .int) ∈ GW := ⟨⟨gw_279, gw_49⟩, gw_280⟩
theorem vn_X4_55 : (Cond.static yX6_outside ∈ GW ∧ Cond.initialized yX6_outside.cls ∈ GW) ∧ Cond.code yX6_outside cX6_outside 3 (some .boolean) ∈ GW := ⟨⟨gw_268, gw_49⟩, gw_269⟩
abbrev TY (cI cC cR : ClassId) : List (ClassId × FieldType) := [(cI, .int), (cC, .char), (cR, .object RX3)]
abbrev wX2 (cI : ClassId) (h0 h1 : Nat) (N : Nat) (c : Nat → Int32) : va_W := [(h0, .inr (2, [.ref h1])), (h1, .inl (cI, N, .inl c))]
abbrev wX5 (cI : ClassId) (h0 h1 h2 h3 h4 h5 h6 h7 h8 : Nat) (sp : Nat → Int32) (we : Nat → Int32) (le : Nat → Int32) (ta : Nat → Int32) (num : Int32) : va_W := [(h0, .inr (5, [.ref h1, .ref h3, .ref h5, .ref h7, .int num])), (h1, .inr (2, [.ref h2])), (h2, .inl (cI, 60, .inl sp)), (h3, .inr (2, [.ref h4])), (h4, .inl (cI, 60, .inl we)), (h5, .inr (2, [.ref h6])), (h6, .inl (cI, 60, .inl le)), (h7, .inr (2, [.ref h8])), (h8, .inl (cI, 24, .inl ta))]
abbrev wX4 (cC : ClassId) (h0 h1 : Nat) (ch : Nat → Int32) (len : Int32) (cur : Int32) (verb : Int32) (fi : Int32) (se : Int32) : va_W := [(h0, .inr (4, [.ref h1, .int len, .int cur, .int verb, .int fi, .int se])), (h1, .inl (cC, 80, .inl ch))]
abbrev wX7 (cI : ClassId) (h0 h1 h2 h3 h4 : Nat) (p : Nat → Int32) (sv : Nat → Int32) (asd : Nat → Int32) (tx : Nat → Int32) (states : Int32) (len : Int32) (at_ : Int32) (letter : Int32) (one : Int32) (two : Int32) (number : Int32) : va_W := [(h0, .inr (7, [.ref h1, .ref h2, .ref h3, .int states, .ref h4, .int len, .int at_, .int letter, .int one, .int two, .int number])), (h1, .inl (cI, 986, .inl p)), (h2, .inl (cI, 4930, .inl sv)), (h3, .inl (cI, 328, .inl asd)), (h4, .inl (cI, 80, .inl tx))]
abbrev wX0 (cI : ClassId) (h0 h1 h2 h3 h4 h5 h6 h7 h8 h9 h10 h11 h12 h13 h14 h15 h16 h17 h18 h19 : Nat) (sp : Nat → Int32) (we : Nat → Int32) (le : Nat → Int32) (ta : Nat → Int32) (num : Int32) (rooms : Nat → Int32) (purses : Nat → Int32) (showers : Nat → Int32) (homes : Nat → Int32) (paid : Nat → Int32) (hours : Int32) (house : Int32) (spent : Int32) (loans : Int32) (surges : Int32) (rate : Int32) : va_W := [(h0, .inr (0, [.ref h1, .ref h10, .ref h12, .ref h14, .ref h16, .ref h18, .int hours, .int house, .int spent, .int loans, .int surges, .int rate])), (h1, .inr (5, [.ref h2, .ref h4, .ref h6, .ref h8, .int num])), (h2, .inr (2, [.ref h3])), (h3, .inl (cI, 60, .inl sp)), (h4, .inr (2, [.ref h5])), (h5, .inl (cI, 60, .inl we)), (h6, .inr (2, [.ref h7])), (h7, .inl (cI, 60, .inl le)), (h8, .inr (2, [.ref h9])), (h9, .inl (cI, 24, .inl ta)), (h10, .inr (2, [.ref h11])), (h11, .inl (cI, 8, .inl rooms)), (h12, .inr (2, [.ref h13])), (h13, .inl (cI, 12, .inl purses)), (h14, .inr (2, [.ref h15])), (h15, .inl (cI, 12, .inl showers)), (h16, .inr (2, [.ref h17])), (h17, .inl (cI, 12, .inl homes)), (h18, .inr (2, [.ref h19])), (h19, .inl (cI, 12, .inl paid))]
