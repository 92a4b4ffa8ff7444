def y_pg_init : MethodName := ⟨"TideTable$Page", "<init>", "()V"⟩
theorem mw_pg_init : tt_Mw y_pg_init prog_2_method_1_code 1 none 0 := ⟨List.mem_of_getElem? (i := 67) (by decide +kernel), List.mem_of_getElem? (i := 44) (by decide +kernel), by decide, by decide, by decide⟩
theorem mi_pg_init : Cond.instanceMethod y_pg_init ∈ tt_good := List.mem_of_getElem? (i := 66) (by decide +kernel)
theorem fl_pg_9 : tt_FL "TideTable$Page" 9 0 0 := ⟨_, _, _, rfl, by decide, rfl, List.mem_of_getElem? (i := 69) (by decide +kernel), rfl, i_Pg⟩
def y_pg_firstWrong : MethodName := ⟨"TideTable$Page", "firstWrong", "()I"⟩
theorem mw_pg_firstWrong : tt_Mw y_pg_firstWrong prog_2_method_2_code 2 (some .int) 0 := ⟨List.mem_of_getElem? (i := 208) (by decide +kernel), List.mem_of_getElem? (i := 44) (by decide +kernel), by decide, by decide, by decide⟩
theorem mi_pg_firstWrong : Cond.instanceMethod y_pg_firstWrong ∈ tt_good := List.mem_of_getElem? (i := 206) (by decide +kernel)
theorem mz_pg_firstWrong : Cond.selects "TideTable$Page" y_pg_firstWrong y_pg_firstWrong ∈ tt_good := List.mem_of_getElem? (i := 207) (by decide +kernel)
theorem fl_pg_15 : tt_FL "TideTable$Page" 15 0 2 := ⟨_, _, _, rfl, by decide, rfl, List.mem_of_getElem? (i := 73) (by decide +kernel), rfl, i_Pg⟩
theorem fp_0_2 : tt_FP 0 2 .int := ⟨_, _, _, t_Pg, rfl, t_Pg_ok, n_Pg, rfl, by decide +kernel⟩
theorem fl_pg_19 : tt_FL "TideTable$Page" 19 0 3 := ⟨_, _, _, rfl, by decide, rfl, List.mem_of_getElem? (i := 74) (by decide +kernel), rfl, i_Pg⟩
theorem fp_0_3 : tt_FP 0 3 .int := ⟨_, _, _, t_Pg, rfl, t_Pg_ok, n_Pg, rfl, by decide +kernel⟩
theorem fl_pg_22 : tt_FL "TideTable$Page" 22 0 1 := ⟨_, _, _, rfl, by decide, rfl, List.mem_of_getElem? (i := 71) (by decide +kernel), rfl, i_Pg⟩
def y_pg_canEndAhead : MethodName := ⟨"TideTable$Page", "canEndAhead", "(I)Z"⟩
theorem mw_pg_canEndAhead : tt_Mw y_pg_canEndAhead prog_2_method_4_code 3 (some .boolean) 1 := ⟨List.mem_of_getElem? (i := 211) (by decide +kernel), List.mem_of_getElem? (i := 44) (by decide +kernel), by decide, by decide, by decide⟩
theorem mi_pg_canEndAhead : Cond.instanceMethod y_pg_canEndAhead ∈ tt_good := List.mem_of_getElem? (i := 210) (by decide +kernel)
theorem mz_pg_canEndAhead : Cond.selects "TideTable$Page" y_pg_canEndAhead y_pg_canEndAhead ∈ tt_good := List.mem_of_getElem? (i := 0) (by decide +kernel)
theorem ml_pg_25 : Cond.methodLink "TideTable$Page" 25 y_pg_canEndAhead ∈ tt_good := List.mem_of_getElem? (i := 209) (by decide +kernel)
def y_pg_fits : MethodName := ⟨"TideTable$Page", "fits", "(I)Z"⟩
theorem mw_pg_fits : tt_Mw y_pg_fits prog_2_method_5_code 9 (some .boolean) 1 := ⟨List.mem_of_getElem? (i := 214) (by decide +kernel), List.mem_of_getElem? (i := 44) (by decide +kernel), by decide, by decide, by decide⟩
theorem mi_pg_fits : Cond.instanceMethod y_pg_fits ∈ tt_good := List.mem_of_getElem? (i := 213) (by decide +kernel)
theorem mz_pg_fits : Cond.selects "TideTable$Page" y_pg_fits y_pg_fits ∈ tt_good := List.mem_of_getElem? (i := 1) (by decide +kernel)
theorem ml_pg_29 : Cond.methodLink "TideTable$Page" 29 y_pg_fits ∈ tt_good := List.mem_of_getElem? (i := 212) (by decide +kernel)
def y_pg_isWhole : MethodName := ⟨"TideTable$Page", "isWhole", "()Z"⟩
theorem mw_pg_isWhole : tt_Mw y_pg_isWhole prog_2_method_3_code 1 (some .boolean) 0 := ⟨List.mem_of_getElem? (i := 307) (by decide +kernel), List.mem_of_getElem? (i := 44) (by decide +kernel), by decide, by decide, by decide⟩
theorem mi_pg_isWhole : Cond.instanceMethod y_pg_isWhole ∈ tt_good := List.mem_of_getElem? (i := 305) (by decide +kernel)
theorem mz_pg_isWhole : Cond.selects "TideTable$Page" y_pg_isWhole y_pg_isWhole ∈ tt_good := List.mem_of_getElem? (i := 306) (by decide +kernel)
theorem ml_pg_32 : Cond.methodLink "TideTable$Page" 32 y_pg_firstWrong ∈ tt_good := List.mem_of_getElem? (i := 308) (by decide +kernel)
def y_pg_kindOf : MethodName := ⟨"TideTable$Page", "kindOf", "(I)I"⟩
theorem mw_pg_kindOf : tt_Mw y_pg_kindOf prog_2_method_6_code 1 (some .int) 1 := ⟨List.mem_of_getElem? (i := 217) (by decide +kernel), List.mem_of_getElem? (i := 44) (by decide +kernel), by decide, by decide, by decide⟩
theorem ms_pg_kindOf : Cond.static y_pg_kindOf ∈ tt_good := List.mem_of_getElem? (i := 216) (by decide +kernel)
theorem ml_pg_36 : Cond.methodLink "TideTable$Page" 36 y_pg_kindOf ∈ tt_good := List.mem_of_getElem? (i := 215) (by decide +kernel)
def y_tb_within : MethodName := ⟨"TideTable", "within", "(III)Z"⟩
theorem mw_tb_within : tt_Mw y_tb_within prog_1_method_34_code 3 (some .boolean) 3 := ⟨List.mem_of_getElem? (i := 196) (by decide +kernel), List.mem_of_getElem? (i := 43) (by decide +kernel), by decide, by decide, by decide⟩
theorem ms_tb_within : Cond.static y_tb_within ∈ tt_good := List.mem_of_getElem? (i := 195) (by decide +kernel)
theorem ml_pg_40 : Cond.methodLinkNest "TideTable$Page" 40 y_tb_within "TideTable" ∈ tt_nest := by decide +kernel
def y_sr_indexOf : MethodName := ⟨"java/lang/String", "indexOf", "(I)I"⟩
theorem mw_sr_indexOf : tt_Mw y_sr_indexOf prog_11_method_79_code 2 (some .int) 1 := ⟨List.mem_of_getElem? (i := 221) (by decide +kernel), List.mem_of_getElem? (i := 49) (by decide +kernel), by decide, by decide, by decide⟩
theorem mi_sr_indexOf : Cond.instanceMethod y_sr_indexOf ∈ tt_good := List.mem_of_getElem? (i := 219) (by decide +kernel)
theorem mz_sr_indexOf : Cond.selects "java/lang/String" y_sr_indexOf y_sr_indexOf ∈ tt_good := List.mem_of_getElem? (i := 220) (by decide +kernel)
theorem ml_pg_46 : Cond.methodLink "TideTable$Page" 46 y_sr_indexOf ∈ tt_good := List.mem_of_getElem? (i := 218) (by decide +kernel)
def y_pg_readInto : MethodName := ⟨"TideTable$Page", "readInto", "(LTideTable$Sea;)V"⟩
theorem mw_pg_readInto : tt_Mw y_pg_readInto prog_2_method_7_code 3 none 1 := ⟨List.mem_of_getElem? (i := 312) (by decide +kernel), List.mem_of_getElem? (i := 44) (by decide +kernel), by decide, by decide, by decide⟩
theorem mi_pg_readInto : Cond.instanceMethod y_pg_readInto ∈ tt_good := List.mem_of_getElem? (i := 310) (by decide +kernel)
theorem mz_pg_readInto : Cond.selects "TideTable$Page" y_pg_readInto y_pg_readInto ∈ tt_good := List.mem_of_getElem? (i := 311) (by decide +kernel)
theorem fl_pg_51 : tt_FL "TideTable$Page" 51 2 1 := ⟨_, _, _, rfl, by decide, rfl, List.mem_of_getElem? (i := 157) (by decide +kernel), rfl, i_Se⟩
theorem fp_2_1 : tt_FP 2 1 .int := ⟨_, _, _, t_Se, rfl, t_Se_ok, n_Se, rfl, by decide +kernel⟩
theorem fl_pg_54 : tt_FL "TideTable$Page" 54 2 2 := ⟨_, _, _, rfl, by decide, rfl, List.mem_of_getElem? (i := 159) (by decide +kernel), rfl, i_Se⟩
theorem fp_2_2 : tt_FP 2 2 .int := ⟨_, _, _, t_Se, rfl, t_Se_ok, n_Se, rfl, by decide +kernel⟩
theorem fl_pg_57 : tt_FL "TideTable$Page" 57 2 0 := ⟨_, _, _, rfl, by decide, rfl, List.mem_of_getElem? (i := 154) (by decide +kernel), rfl, i_Se⟩
def y_pg_readPort : MethodName := ⟨"TideTable$Page", "readPort", "(ILTideTable$Port;)I"⟩
theorem mw_pg_readPort : tt_Mw y_pg_readPort prog_2_method_8_code 5 (some .int) 2 := ⟨List.mem_of_getElem? (i := 315) (by decide +kernel), List.mem_of_getElem? (i := 44) (by decide +kernel), by decide, by decide, by decide⟩
theorem mi_pg_readPort : Cond.instanceMethod y_pg_readPort ∈ tt_good := List.mem_of_getElem? (i := 314) (by decide +kernel)
theorem mz_pg_readPort : Cond.selects "TideTable$Page" y_pg_readPort y_pg_readPort ∈ tt_good := List.mem_of_getElem? (i := 2) (by decide +kernel)
theorem ml_pg_61 : Cond.methodLink "TideTable$Page" 61 y_pg_readPort ∈ tt_good := List.mem_of_getElem? (i := 313) (by decide +kernel)
def y_pg_numberAt : MethodName := ⟨"TideTable$Page", "numberAt", "(I)I"⟩
theorem mw_pg_numberAt : tt_Mw y_pg_numberAt prog_2_method_9_code 2 (some .int) 1 := ⟨List.mem_of_getElem? (i := 318) (by decide +kernel), List.mem_of_getElem? (i := 44) (by decide +kernel), by decide, by decide, by decide⟩
theorem mi_pg_numberAt : Cond.instanceMethod y_pg_numberAt ∈ tt_good := List.mem_of_getElem? (i := 317) (by decide +kernel)
theorem mz_pg_numberAt : Cond.selects "TideTable$Page" y_pg_numberAt y_pg_numberAt ∈ tt_good := List.mem_of_getElem? (i := 3) (by decide +kernel)
theorem ml_pg_65 : Cond.methodLink "TideTable$Page" 65 y_pg_numberAt ∈ tt_good := List.mem_of_getElem? (i := 316) (by decide +kernel)
def y_po_begin : MethodName := ⟨"TideTable$Port", "begin", "(IIII)V"⟩
theorem mw_po_begin : tt_Mw y_po_begin prog_3_method_2_code 5 none 4 := ⟨List.mem_of_getElem? (i := 322) (by decide +kernel), List.mem_of_getElem? (i := 46) (by decide +kernel), by decide, by decide, by decide⟩
theorem mi_po_begin : Cond.instanceMethod y_po_begin ∈ tt_good := List.mem_of_getElem? (i := 320) (by decide +kernel)
theorem mz_po_begin : Cond.selects "TideTable$Port" y_po_begin y_po_begin ∈ tt_good := List.mem_of_getElem? (i := 321) (by decide +kernel)
theorem ml_pg_68 : Cond.methodLink "TideTable$Page" 68 y_po_begin ∈ tt_good := List.mem_of_getElem? (i := 319) (by decide +kernel)
def y_po_putWave : MethodName := ⟨"TideTable$Port", "putWave", "(III)V"⟩
theorem mw_po_putWave : tt_Mw y_po_putWave prog_3_method_6_code 4 none 3 := ⟨List.mem_of_getElem? (i := 326) (by decide +kernel), List.mem_of_getElem? (i := 46) (by decide +kernel), by decide, by decide, by decide⟩
theorem mi_po_putWave : Cond.instanceMethod y_po_putWave ∈ tt_good := List.mem_of_getElem? (i := 324) (by decide +kernel)
theorem mz_po_putWave : Cond.selects "TideTable$Port" y_po_putWave y_po_putWave ∈ tt_good := List.mem_of_getElem? (i := 325) (by decide +kernel)
theorem ml_pg_74 : Cond.methodLink "TideTable$Page" 74 y_po_putWave ∈ tt_good := List.mem_of_getElem? (i := 323) (by decide +kernel)
def y_po_init : MethodName := ⟨"TideTable$Port", "<init>", "()V"⟩
theorem mw_po_init : tt_Mw y_po_init prog_3_method_1_code 2 none 0 := ⟨List.mem_of_getElem? (i := 95) (by decide +kernel), List.mem_of_getElem? (i := 46) (by decide +kernel), by decide, by decide, by decide⟩
theorem mi_po_init : Cond.instanceMethod y_po_init ∈ tt_good := List.mem_of_getElem? (i := 94) (by decide +kernel)
theorem fl_po_9 : tt_FL "TideTable$Port" 9 1 4 := ⟨_, _, _, rfl, by decide, rfl, List.mem_of_getElem? (i := 130) (by decide +kernel), rfl, i_Po⟩
theorem fp_1_4 : tt_FP 1 4 .int := ⟨_, _, _, t_Po, rfl, t_Po_ok, n_Po, rfl, by decide +kernel⟩
theorem fl_po_17 : tt_FL "TideTable$Port" 17 1 5 := ⟨_, _, _, rfl, by decide, rfl, List.mem_of_getElem? (i := 132) (by decide +kernel), rfl, i_Po⟩
def y_wa_init : MethodName := ⟨"TideTable$Wave", "<init>", "()V"⟩
theorem mw_wa_init : tt_Mw y_wa_init prog_5_method_1_code 1 none 0 := ⟨List.mem_of_getElem? (i := 100) (by decide +kernel), List.mem_of_getElem? (i := 47) (by decide +kernel), by decide, by decide, by decide⟩
theorem mi_wa_init : Cond.instanceMethod y_wa_init ∈ tt_good := List.mem_of_getElem? (i := 99) (by decide +kernel)
theorem ml_po_21 : Cond.methodLinkNest "TideTable$Port" 21 y_wa_init "TideTable" ∈ tt_nest := by decide +kernel
theorem fl_po_22 : tt_FL "TideTable$Port" 22 1 0 := ⟨_, _, _, rfl, by decide, rfl, List.mem_of_getElem? (i := 118) (by decide +kernel), rfl, i_Po⟩
theorem fp_1_0 : tt_FP 1 0 .int := ⟨_, _, _, t_Po, rfl, t_Po_ok, n_Po, rfl, by decide +kernel⟩
theorem fl_po_25 : tt_FL "TideTable$Port" 25 1 1 := ⟨_, _, _, rfl, by decide, rfl, List.mem_of_getElem? (i := 121) (by decide +kernel), rfl, i_Po⟩
theorem fp_1_1 : tt_FP 1 1 .int := ⟨_, _, _, t_Po, rfl, t_Po_ok, n_Po, rfl, by decide +kernel⟩
theorem fl_po_28 : tt_FL "TideTable$Port" 28 1 2 := ⟨_, _, _, rfl, by decide, rfl, List.mem_of_getElem? (i := 124) (by decide +kernel), rfl, i_Po⟩
theorem fp_1_2 : tt_FP 1 2 .int := ⟨_, _, _, t_Po, rfl, t_Po_ok, n_Po, rfl, by decide +kernel⟩
theorem fl_po_31 : tt_FL "TideTable$Port" 31 1 3 := ⟨_, _, _, rfl, by decide, rfl, List.mem_of_getElem? (i := 127) (by decide +kernel), rfl, i_Po⟩
theorem fp_1_3 : tt_FP 1 3 .int := ⟨_, _, _, t_Po, rfl, t_Po_ok, n_Po, rfl, by decide +kernel⟩
theorem fl_po_34 : tt_FL "TideTable$Port" 34 1 6 := ⟨_, _, _, rfl, by decide, rfl, List.mem_of_getElem? (i := 134) (by decide +kernel), rfl, i_Po⟩
theorem fp_1_6 : tt_FP 1 6 .int := ⟨_, _, _, t_Po, rfl, t_Po_ok, n_Po, rfl, by decide +kernel⟩
def y_po_become : MethodName := ⟨"TideTable$Port", "become", "(LTideTable$Port;)V"⟩
theorem mw_po_become : tt_Mw y_po_become prog_3_method_3_code 4 none 1 := ⟨List.mem_of_getElem? (i := 522) (by decide +kernel), List.mem_of_getElem? (i := 46) (by decide +kernel), by decide, by decide, by decide⟩
theorem mi_po_become : Cond.instanceMethod y_po_become ∈ tt_good := List.mem_of_getElem? (i := 520) (by decide +kernel)
theorem mz_po_become : Cond.selects "TideTable$Port" y_po_become y_po_become ∈ tt_good := List.mem_of_getElem? (i := 521) (by decide +kernel)
theorem ml_po_37 : Cond.methodLink "TideTable$Port" 37 y_po_begin ∈ tt_good := List.mem_of_getElem? (i := 523) (by decide +kernel)
theorem fl_po_41 : tt_FL "TideTable$Port" 41 3 0 := ⟨_, _, _, rfl, by decide, rfl, List.mem_of_getElem? (i := 103) (by decide +kernel), rfl, i_Wa⟩
theorem fl_po_44 : tt_FL "TideTable$Port" 44 3 1 := ⟨_, _, _, rfl, by decide, rfl, List.mem_of_getElem? (i := 106) (by decide +kernel), rfl, i_Wa⟩
theorem fl_po_47 : tt_FL "TideTable$Port" 47 3 2 := ⟨_, _, _, rfl, by decide, rfl, List.mem_of_getElem? (i := 109) (by decide +kernel), rfl, i_Wa⟩
theorem ml_po_50 : Cond.methodLink "TideTable$Port" 50 y_po_putWave ∈ tt_good := List.mem_of_getElem? (i := 524) (by decide +kernel)
def y_po_has : MethodName := ⟨"TideTable$Port", "has", "(I)Z"⟩
theorem mw_po_has : tt_Mw y_po_has prog_3_method_4_code 2 (some .boolean) 1 := ⟨List.mem_of_getElem? (i := 360) (by decide +kernel), List.mem_of_getElem? (i := 46) (by decide +kernel), by decide, by decide, by decide⟩
theorem mi_po_has : Cond.instanceMethod y_po_has ∈ tt_good := List.mem_of_getElem? (i := 358) (by decide +kernel)
theorem mz_po_has : Cond.selects "TideTable$Port" y_po_has y_po_has ∈ tt_good := List.mem_of_getElem? (i := 359) (by decide +kernel)
def y_po_isA : MethodName := ⟨"TideTable$Port", "isA", "(I)Z"⟩
theorem mw_po_isA : tt_Mw y_po_isA prog_3_method_5_code 2 (some .boolean) 1 := ⟨List.mem_of_getElem? (i := 368) (by decide +kernel), List.mem_of_getElem? (i := 46) (by decide +kernel), by decide, by decide, by decide⟩
theorem mi_po_isA : Cond.instanceMethod y_po_isA ∈ tt_good := List.mem_of_getElem? (i := 366) (by decide +kernel)
theorem mz_po_isA : Cond.selects "TideTable$Port" y_po_isA y_po_isA ∈ tt_good := List.mem_of_getElem? (i := 367) (by decide +kernel)
def y_wa_put : MethodName := ⟨"TideTable$Wave", "put", "(III)V"⟩
theorem mw_wa_put : tt_Mw y_wa_put prog_5_method_2_code 4 none 3 := ⟨List.mem_of_getElem? (i := 330) (by decide +kernel), List.mem_of_getElem? (i := 47) (by decide +kernel), by decide, by decide, by decide⟩
theorem mi_wa_put : Cond.instanceMethod y_wa_put ∈ tt_good := List.mem_of_getElem? (i := 328) (by decide +kernel)
theorem mz_wa_put : Cond.selects "TideTable$Wave" y_wa_put y_wa_put ∈ tt_good := List.mem_of_getElem? (i := 329) (by decide +kernel)
theorem ml_po_54 : Cond.methodLink "TideTable$Port" 54 y_wa_put ∈ tt_good := List.mem_of_getElem? (i := 327) (by decide +kernel)
def y_po_dropWave : MethodName := ⟨"TideTable$Port", "dropWave", "(I)V"⟩
theorem mw_po_dropWave : tt_Mw y_po_dropWave prog_3_method_7_code 4 none 1 := ⟨List.mem_of_getElem? (i := 489) (by decide +kernel), List.mem_of_getElem? (i := 46) (by decide +kernel), by decide, by decide, by decide⟩
theorem mi_po_dropWave : Cond.instanceMethod y_po_dropWave ∈ tt_good := List.mem_of_getElem? (i := 487) (by decide +kernel)
theorem mz_po_dropWave : Cond.selects "TideTable$Port" y_po_dropWave y_po_dropWave ∈ tt_good := List.mem_of_getElem? (i := 488) (by decide +kernel)
def y_po_sumAt : MethodName := ⟨"TideTable$Port", "sumAt", "(I)I"⟩
theorem mw_po_sumAt : tt_Mw y_po_sumAt prog_3_method_8_code 4 (some .int) 1 := ⟨List.mem_of_getElem? (i := 384) (by decide +kernel), List.mem_of_getElem? (i := 46) (by decide +kernel), by decide, by decide, by decide⟩
theorem mi_po_sumAt : Cond.instanceMethod y_po_sumAt ∈ tt_good := List.mem_of_getElem? (i := 382) (by decide +kernel)
theorem mz_po_sumAt : Cond.selects "TideTable$Port" y_po_sumAt y_po_sumAt ∈ tt_good := List.mem_of_getElem? (i := 383) (by decide +kernel)
def y_wa_givesAt : MethodName := ⟨"TideTable$Wave", "givesAt", "(I)I"⟩
theorem mw_wa_givesAt : tt_Mw y_wa_givesAt prog_5_method_3_code 6 (some .int) 1 := ⟨List.mem_of_getElem? (i := 388) (by decide +kernel), List.mem_of_getElem? (i := 47) (by decide +kernel), by decide, by decide, by decide⟩
theorem mi_wa_givesAt : Cond.instanceMethod y_wa_givesAt ∈ tt_good := List.mem_of_getElem? (i := 386) (by decide +kernel)
theorem mz_wa_givesAt : Cond.selects "TideTable$Wave" y_wa_givesAt y_wa_givesAt ∈ tt_good := List.mem_of_getElem? (i := 387) (by decide +kernel)
theorem ml_po_57 : Cond.methodLink "TideTable$Port" 57 y_wa_givesAt ∈ tt_good := List.mem_of_getElem? (i := 385) (by decide +kernel)
def y_po_ownHeightAt : MethodName := ⟨"TideTable$Port", "ownHeightAt", "(I)I"⟩
theorem mw_po_ownHeightAt : tt_Mw y_po_ownHeightAt prog_3_method_9_code 5 (some .int) 1 := ⟨List.mem_of_getElem? (i := 404) (by decide +kernel), List.mem_of_getElem? (i := 46) (by decide +kernel), by decide, by decide, by decide⟩
theorem mi_po_ownHeightAt : Cond.instanceMethod y_po_ownHeightAt ∈ tt_good := List.mem_of_getElem? (i := 402) (by decide +kernel)
theorem mz_po_ownHeightAt : Cond.selects "TideTable$Port" y_po_ownHeightAt y_po_ownHeightAt ∈ tt_good := List.mem_of_getElem? (i := 403) (by decide +kernel)
theorem ml_po_61 : Cond.methodLink "TideTable$Port" 61 y_po_sumAt ∈ tt_good := List.mem_of_getElem? (i := 405) (by decide +kernel)
def y_po_isOddDay : MethodName := ⟨"TideTable$Port", "isOddDay", "(I)Z"⟩
theorem mw_po_isOddDay : tt_Mw y_po_isOddDay prog_3_method_10_code 1 (some .boolean) 1 := ⟨List.mem_of_getElem? (i := 408) (by decide +kernel), List.mem_of_getElem? (i := 46) (by decide +kernel), by decide, by decide, by decide⟩
theorem ms_po_isOddDay : Cond.static y_po_isOddDay ∈ tt_good := List.mem_of_getElem? (i := 407) (by decide +kernel)
theorem ml_po_64 : Cond.methodLink "TideTable$Port" 64 y_po_isOddDay ∈ tt_good := List.mem_of_getElem? (i := 406) (by decide +kernel)
theorem ml_po_68 : Cond.methodLink "TideTable$Port" 68 y_po_isA ∈ tt_good := List.mem_of_getElem? (i := 410) (by decide +kernel)
def y_ma_max : MethodName := ⟨"java/lang/Math", "max", "(II)I"⟩
theorem mw_ma_max : tt_Mw y_ma_max prog_10_method_65_code 2 (some .int) 2 := ⟨List.mem_of_getElem? (i := 247) (by decide +kernel), List.mem_of_getElem? (i := 51) (by decide +kernel), by decide, by decide, by decide⟩
theorem ms_ma_max : Cond.static y_ma_max ∈ tt_good := List.mem_of_getElem? (i := 246) (by decide +kernel)
theorem ml_po_71 : Cond.methodLink "TideTable$Port" 71 y_ma_max ∈ tt_good := List.mem_of_getElem? (i := 411) (by decide +kernel)
def y_ma_floorDiv : MethodName := ⟨"java/lang/Math", "floorDiv", "(II)I"⟩
theorem mw_ma_floorDiv : tt_Mw y_ma_floorDiv prog_10_method_47_code 3 (some .int) 2 := ⟨List.mem_of_getElem? (i := 391) (by decide +kernel), List.mem_of_getElem? (i := 51) (by decide +kernel), by decide, by decide, by decide⟩
theorem ms_ma_floorDiv : Cond.static y_ma_floorDiv ∈ tt_good := List.mem_of_getElem? (i := 390) (by decide +kernel)
theorem ml_po_77 : Cond.methodLink "TideTable$Port" 77 y_ma_floorDiv ∈ tt_good := List.mem_of_getElem? (i := 409) (by decide +kernel)
def y_se_init : MethodName := ⟨"TideTable$Sea", "<init>", "()V"⟩
theorem mw_se_init : tt_Mw y_se_init prog_4_method_1_code 2 none 0 := ⟨List.mem_of_getElem? (i := 89) (by decide +kernel), List.mem_of_getElem? (i := 45) (by decide +kernel), by decide, by decide, by decide⟩
theorem mi_se_init : Cond.instanceMethod y_se_init ∈ tt_good := List.mem_of_getElem? (i := 88) (by decide +kernel)
theorem fl_se_11 : tt_FL "TideTable$Sea" 11 2 0 := ⟨_, _, _, rfl, by decide, rfl, List.mem_of_getElem? (i := 152) (by decide +kernel), rfl, i_Se⟩
theorem ml_se_17 : Cond.methodLink "TideTable$Sea" 17 y_po_init ∈ tt_good := List.mem_of_getElem? (i := 93) (by decide +kernel)
def y_se_become : MethodName := ⟨"TideTable$Sea", "become", "(LTideTable$Sea;)V"⟩
theorem mw_se_become : tt_Mw y_se_become prog_4_method_2_code 3 none 1 := ⟨List.mem_of_getElem? (i := 518) (by decide +kernel), List.mem_of_getElem? (i := 45) (by decide +kernel), by decide, by decide, by decide⟩
theorem mi_se_become : Cond.instanceMethod y_se_become ∈ tt_good := List.mem_of_getElem? (i := 516) (by decide +kernel)
theorem mz_se_become : Cond.selects "TideTable$Sea" y_se_become y_se_become ∈ tt_good := List.mem_of_getElem? (i := 517) (by decide +kernel)
theorem fl_se_18 : tt_FL "TideTable$Sea" 18 2 1 := ⟨_, _, _, rfl, by decide, rfl, List.mem_of_getElem? (i := 155) (by decide +kernel), rfl, i_Se⟩
theorem fl_se_22 : tt_FL "TideTable$Sea" 22 2 2 := ⟨_, _, _, rfl, by decide, rfl, List.mem_of_getElem? (i := 158) (by decide +kernel), rfl, i_Se⟩
theorem ml_se_25 : Cond.methodLink "TideTable$Sea" 25 y_po_become ∈ tt_good := List.mem_of_getElem? (i := 519) (by decide +kernel)
def y_se_knows : MethodName := ⟨"TideTable$Sea", "knows", "(I)Z"⟩
theorem mw_se_knows : tt_Mw y_se_knows prog_4_method_3_code 2 (some .boolean) 1 := ⟨List.mem_of_getElem? (i := 338) (by decide +kernel), List.mem_of_getElem? (i := 45) (by decide +kernel), by decide, by decide, by decide⟩
theorem mi_se_knows : Cond.instanceMethod y_se_knows ∈ tt_good := List.mem_of_getElem? (i := 336) (by decide +kernel)
theorem mz_se_knows : Cond.selects "TideTable$Sea" y_se_knows y_se_knows ∈ tt_good := List.mem_of_getElem? (i := 337) (by decide +kernel)
def y_se_heightAt : MethodName := ⟨"TideTable$Sea", "heightAt", "(II)I"⟩
theorem mw_se_heightAt : tt_Mw y_se_heightAt prog_4_method_4_code 5 (some .int) 2 := ⟨List.mem_of_getElem? (i := 399) (by decide +kernel), List.mem_of_getElem? (i := 45) (by decide +kernel), by decide, by decide, by decide⟩
theorem mi_se_heightAt : Cond.instanceMethod y_se_heightAt ∈ tt_good := List.mem_of_getElem? (i := 397) (by decide +kernel)
theorem mz_se_heightAt : Cond.selects "TideTable$Sea" y_se_heightAt y_se_heightAt ∈ tt_good := List.mem_of_getElem? (i := 398) (by decide +kernel)
theorem ml_se_29 : Cond.methodLink "TideTable$Sea" 29 y_se_knows ∈ tt_good := List.mem_of_getElem? (i := 400) (by decide +kernel)
theorem fl_se_33 : tt_FL "TideTable$Sea" 33 1 0 := ⟨_, _, _, rfl, by decide, rfl, List.mem_of_getElem? (i := 119) (by decide +kernel), rfl, i_Po⟩
theorem ml_se_36 : Cond.methodLink "TideTable$Sea" 36 y_po_ownHeightAt ∈ tt_good := List.mem_of_getElem? (i := 401) (by decide +kernel)
theorem fl_se_40 : tt_FL "TideTable$Sea" 40 1 2 := ⟨_, _, _, rfl, by decide, rfl, List.mem_of_getElem? (i := 125) (by decide +kernel), rfl, i_Po⟩
theorem fl_se_43 : tt_FL "TideTable$Sea" 43 1 3 := ⟨_, _, _, rfl, by decide, rfl, List.mem_of_getElem? (i := 128) (by decide +kernel), rfl, i_Po⟩
theorem ml_se_46 : Cond.methodLink "TideTable$Sea" 46 y_ma_floorDiv ∈ tt_good := List.mem_of_getElem? (i := 412) (by decide +kernel)
theorem fl_se_52 : tt_FL "TideTable$Sea" 52 1 1 := ⟨_, _, _, rfl, by decide, rfl, List.mem_of_getElem? (i := 122) (by decide +kernel), rfl, i_Po⟩
def y_se_fill : MethodName := ⟨"TideTable$Sea", "fill", "([IIII)V"⟩
theorem mw_se_fill : tt_Mw y_se_fill prog_4_method_5_code 6 none 4 := ⟨List.mem_of_getElem? (i := 420) (by decide +kernel), List.mem_of_getElem? (i := 45) (by decide +kernel), by decide, by decide, by decide⟩
theorem mi_se_fill : Cond.instanceMethod y_se_fill ∈ tt_good := List.mem_of_getElem? (i := 418) (by decide +kernel)
theorem mz_se_fill : Cond.selects "TideTable$Sea" y_se_fill y_se_fill ∈ tt_good := List.mem_of_getElem? (i := 419) (by decide +kernel)
theorem ml_se_55 : Cond.methodLink "TideTable$Sea" 55 y_se_heightAt ∈ tt_good := List.mem_of_getElem? (i := 421) (by decide +kernel)
def y_se_wavesOfAll : MethodName := ⟨"TideTable$Sea", "wavesOfAll", "()I"⟩
theorem mw_se_wavesOfAll : tt_Mw y_se_wavesOfAll prog_4_method_6_code 3 (some .int) 0 := ⟨List.mem_of_getElem? (i := 536) (by decide +kernel), List.mem_of_getElem? (i := 45) (by decide +kernel), by decide, by decide, by decide⟩
theorem mi_se_wavesOfAll : Cond.instanceMethod y_se_wavesOfAll ∈ tt_good := List.mem_of_getElem? (i := 534) (by decide +kernel)
theorem mz_se_wavesOfAll : Cond.selects "TideTable$Sea" y_se_wavesOfAll y_se_wavesOfAll ∈ tt_good := List.mem_of_getElem? (i := 535) (by decide +kernel)
theorem fl_se_58 : tt_FL "TideTable$Sea" 58 1 6 := ⟨_, _, _, rfl, by decide, rfl, List.mem_of_getElem? (i := 135) (by decide +kernel), rfl, i_Po⟩
def y_se_followers : MethodName := ⟨"TideTable$Sea", "followers", "()I"⟩
theorem mw_se_followers : tt_Mw y_se_followers prog_4_method_7_code 3 (some .int) 0 := ⟨List.mem_of_getElem? (i := 540) (by decide +kernel), List.mem_of_getElem? (i := 45) (by decide +kernel), by decide, by decide, by decide⟩
theorem mi_se_followers : Cond.instanceMethod y_se_followers ∈ tt_good := List.mem_of_getElem? (i := 538) (by decide +kernel)
theorem mz_se_followers : Cond.selects "TideTable$Sea" y_se_followers y_se_followers ∈ tt_good := List.mem_of_getElem? (i := 539) (by decide +kernel)
def y_se_greatestOnDay0 : MethodName := ⟨"TideTable$Sea", "greatestOnDay0", "()I"⟩
theorem mw_se_greatestOnDay0 : tt_Mw y_se_greatestOnDay0 prog_4_method_8_code 4 (some .int) 0 := ⟨List.mem_of_getElem? (i := 544) (by decide +kernel), List.mem_of_getElem? (i := 45) (by decide +kernel), by decide, by decide, by decide⟩
theorem mi_se_greatestOnDay0 : Cond.instanceMethod y_se_greatestOnDay0 ∈ tt_good := List.mem_of_getElem? (i := 542) (by decide +kernel)
theorem mz_se_greatestOnDay0 : Cond.selects "TideTable$Sea" y_se_greatestOnDay0 y_se_greatestOnDay0 ∈ tt_good := List.mem_of_getElem? (i := 543) (by decide +kernel)
theorem ml_se_59 : Cond.methodLink "TideTable$Sea" 59 y_ma_max ∈ tt_good := List.mem_of_getElem? (i := 545) (by decide +kernel)
theorem fl_wa_7 : tt_FL "TideTable$Wave" 7 3 0 := ⟨_, _, _, rfl, by decide, rfl, List.mem_of_getElem? (i := 102) (by decide +kernel), rfl, i_Wa⟩
theorem fp_3_0 : tt_FP 3 0 .int := ⟨_, _, _, t_Wa, rfl, t_Wa_ok, n_Wa, rfl, by decide +kernel⟩
theorem fl_wa_13 : tt_FL "TideTable$Wave" 13 3 1 := ⟨_, _, _, rfl, by decide, rfl, List.mem_of_getElem? (i := 105) (by decide +kernel), rfl, i_Wa⟩
theorem fp_3_1 : tt_FP 3 1 .int := ⟨_, _, _, t_Wa, rfl, t_Wa_ok, n_Wa, rfl, by decide +kernel⟩
theorem fl_wa_16 : tt_FL "TideTable$Wave" 16 3 2 := ⟨_, _, _, rfl, by decide, rfl, List.mem_of_getElem? (i := 108) (by decide +kernel), rfl, i_Wa⟩
theorem fp_3_2 : tt_FP 3 2 .int := ⟨_, _, _, t_Wa, rfl, t_Wa_ok, n_Wa, rfl, by decide +kernel⟩
def y_tb_roundAt : MethodName := ⟨"TideTable", "roundAt", "(I)I"⟩
theorem mw_tb_roundAt : tt_Mw y_tb_roundAt prog_1_method_35_code 2 (some .int) 1 := ⟨List.mem_of_getElem? (i := 375) (by decide +kernel), List.mem_of_getElem? (i := 43) (by decide +kernel), by decide, by decide, by decide⟩
theorem ms_tb_roundAt : Cond.static y_tb_roundAt ∈ tt_good := List.mem_of_getElem? (i := 374) (by decide +kernel)
theorem ml_wa_19 : Cond.methodLinkNest "TideTable$Wave" 19 y_tb_roundAt "TideTable" ∈ tt_nest := by decide +kernel
theorem ml_wa_25 : Cond.methodLink "TideTable$Wave" 25 y_ma_floorDiv ∈ tt_good := List.mem_of_getElem? (i := 389) (by decide +kernel)
def y_tb_init : MethodName := ⟨"TideTable", "<init>", "()V"⟩
theorem mw_tb_init : tt_Mw y_tb_init prog_1_method_1_code 1 none 0 := ⟨List.mem_of_getElem? (i := 60) (by decide +kernel), List.mem_of_getElem? (i := 43) (by decide +kernel), by decide, by decide, by decide⟩
theorem mi_tb_init : Cond.instanceMethod y_tb_init ∈ tt_good := List.mem_of_getElem? (i := 59) (by decide +kernel)
theorem ml_tb_11 : Cond.methodLinkNest "TideTable" 11 y_pg_init "TideTable" ∈ tt_nest := by decide +kernel
theorem fl_tb_12 : tt_FL "TideTable" 12 4 0 := ⟨_, _, _, rfl, by decide, rfl, List.mem_of_getElem? (i := 168) (by decide +kernel), rfl, i_Tt⟩
theorem ml_tb_18 : Cond.methodLink "TideTable" 18 y_se_init ∈ tt_good := List.mem_of_getElem? (i := 87) (by decide +kernel)
theorem fl_tb_19 : tt_FL "TideTable" 19 4 1 := ⟨_, _, _, rfl, by decide, rfl, List.mem_of_getElem? (i := 169) (by decide +kernel), rfl, i_Tt⟩
theorem fl_tb_23 : tt_FL "TideTable" 23 4 2 := ⟨_, _, _, rfl, by decide, rfl, List.mem_of_getElem? (i := 170) (by decide +kernel), rfl, i_Tt⟩
theorem fl_tb_26 : tt_FL "TideTable" 26 4 5 := ⟨_, _, _, rfl, by decide, rfl, List.mem_of_getElem? (i := 173) (by decide +kernel), rfl, i_Tt⟩
theorem fl_tb_30 : tt_FL "TideTable" 30 4 6 := ⟨_, _, _, rfl, by decide, rfl, List.mem_of_getElem? (i := 174) (by decide +kernel), rfl, i_Tt⟩
def y_tb_letter : MethodName := ⟨"TideTable", "letter", "(I)I"⟩
theorem mw_tb_letter : tt_Mw y_tb_letter prog_1_method_2_code 2 (some .int) 1 := ⟨List.mem_of_getElem? (i := 193) (by decide +kernel), List.mem_of_getElem? (i := 43) (by decide +kernel), by decide, by decide, by decide⟩
theorem mi_tb_letter : Cond.instanceMethod y_tb_letter ∈ tt_good := List.mem_of_getElem? (i := 191) (by decide +kernel)
theorem mz_tb_letter : Cond.selects "TideTable" y_tb_letter y_tb_letter ∈ tt_good := List.mem_of_getElem? (i := 192) (by decide +kernel)
theorem ml_tb_33 : Cond.methodLink "TideTable" 33 y_tb_within ∈ tt_good := List.mem_of_getElem? (i := 194) (by decide +kernel)
theorem fl_tb_37 : tt_FL "TideTable" 37 0 1 := ⟨_, _, _, rfl, by decide, rfl, List.mem_of_getElem? (i := 72) (by decide +kernel), rfl, i_Pg⟩
theorem fl_tb_41 : tt_FL "TideTable" 41 0 0 := ⟨_, _, _, rfl, by decide, rfl, List.mem_of_getElem? (i := 70) (by decide +kernel), rfl, i_Pg⟩
theorem fp_0_1 : tt_FP 0 1 .int := ⟨_, _, _, t_Pg, rfl, t_Pg_ok, n_Pg, rfl, by decide +kernel⟩
def y_tb_blank : MethodName := ⟨"TideTable", "blank", "()I"⟩
theorem mw_tb_blank : tt_Mw y_tb_blank prog_1_method_3_code 2 (some .int) 0 := ⟨List.mem_of_getElem? (i := 200) (by decide +kernel), List.mem_of_getElem? (i := 43) (by decide +kernel), by decide, by decide, by decide⟩
theorem mi_tb_blank : Cond.instanceMethod y_tb_blank ∈ tt_good := List.mem_of_getElem? (i := 198) (by decide +kernel)
theorem mz_tb_blank : Cond.selects "TideTable" y_tb_blank y_tb_blank ∈ tt_good := List.mem_of_getElem? (i := 199) (by decide +kernel)
def y_tb_fault : MethodName := ⟨"TideTable", "fault", "()I"⟩
theorem mw_tb_fault : tt_Mw y_tb_fault prog_1_method_4_code 1 (some .int) 0 := ⟨List.mem_of_getElem? (i := 204) (by decide +kernel), List.mem_of_getElem? (i := 43) (by decide +kernel), by decide, by decide, by decide⟩
theorem mi_tb_fault : Cond.instanceMethod y_tb_fault ∈ tt_good := List.mem_of_getElem? (i := 202) (by decide +kernel)
theorem mz_tb_fault : Cond.selects "TideTable" y_tb_fault y_tb_fault ∈ tt_good := List.mem_of_getElem? (i := 203) (by decide +kernel)
theorem ml_tb_44 : Cond.methodLink "TideTable" 44 y_pg_firstWrong ∈ tt_good := List.mem_of_getElem? (i := 205) (by decide +kernel)
def y_tb_ports : MethodName := ⟨"TideTable", "ports", "()I"⟩
theorem mw_tb_ports : tt_Mw y_tb_ports prog_1_method_5_code 1 (some .int) 0 := ⟨List.mem_of_getElem? (i := 303) (by decide +kernel), List.mem_of_getElem? (i := 43) (by decide +kernel), by decide, by decide, by decide⟩
theorem mi_tb_ports : Cond.instanceMethod y_tb_ports ∈ tt_good := List.mem_of_getElem? (i := 301) (by decide +kernel)
theorem mz_tb_ports : Cond.selects "TideTable" y_tb_ports y_tb_ports ∈ tt_good := List.mem_of_getElem? (i := 302) (by decide +kernel)
theorem ml_tb_48 : Cond.methodLink "TideTable" 48 y_pg_isWhole ∈ tt_good := List.mem_of_getElem? (i := 304) (by decide +kernel)
theorem ml_tb_52 : Cond.methodLink "TideTable" 52 y_pg_readInto ∈ tt_good := List.mem_of_getElem? (i := 309) (by decide +kernel)
theorem fl_tb_56 : tt_FL "TideTable" 56 4 3 := ⟨_, _, _, rfl, by decide, rfl, List.mem_of_getElem? (i := 171) (by decide +kernel), rfl, i_Tt⟩
theorem fp_4_3 : tt_FP 4 3 .boolean := ⟨_, _, _, t_Tt, rfl, t_Tt_ok, n_Tt, rfl, by decide +kernel⟩
theorem fl_tb_60 : tt_FL "TideTable" 60 4 4 := ⟨_, _, _, rfl, by decide, rfl, List.mem_of_getElem? (i := 172) (by decide +kernel), rfl, i_Tt⟩
theorem fp_4_4 : tt_FP 4 4 .int := ⟨_, _, _, t_Tt, rfl, t_Tt_ok, n_Tt, rfl, by decide +kernel⟩
theorem fl_tb_63 : tt_FL "TideTable" 63 2 1 := ⟨_, _, _, rfl, by decide, rfl, List.mem_of_getElem? (i := 156) (by decide +kernel), rfl, i_Se⟩
def y_tb_port : MethodName := ⟨"TideTable", "port", "(II)I"⟩
theorem mw_tb_port : tt_Mw y_tb_port prog_1_method_6_code 4 (some .int) 2 := ⟨List.mem_of_getElem? (i := 334) (by decide +kernel), List.mem_of_getElem? (i := 43) (by decide +kernel), by decide, by decide, by decide⟩
theorem mi_tb_port : Cond.instanceMethod y_tb_port ∈ tt_good := List.mem_of_getElem? (i := 332) (by decide +kernel)
theorem mz_tb_port : Cond.selects "TideTable" y_tb_port y_tb_port ∈ tt_good := List.mem_of_getElem? (i := 333) (by decide +kernel)
theorem ml_tb_64 : Cond.methodLink "TideTable" 64 y_se_knows ∈ tt_good := List.mem_of_getElem? (i := 335) (by decide +kernel)
theorem fl_tb_68 : tt_FL "TideTable" 68 2 0 := ⟨_, _, _, rfl, by decide, rfl, List.mem_of_getElem? (i := 153) (by decide +kernel), rfl, i_Se⟩
theorem fl_tb_72 : tt_FL "TideTable" 72 1 0 := ⟨_, _, _, rfl, by decide, rfl, List.mem_of_getElem? (i := 120) (by decide +kernel), rfl, i_Po⟩
theorem fl_tb_77 : tt_FL "TideTable" 77 1 1 := ⟨_, _, _, rfl, by decide, rfl, List.mem_of_getElem? (i := 123) (by decide +kernel), rfl, i_Po⟩
theorem fl_tb_80 : tt_FL "TideTable" 80 1 2 := ⟨_, _, _, rfl, by decide, rfl, List.mem_of_getElem? (i := 126) (by decide +kernel), rfl, i_Po⟩
theorem fl_tb_83 : tt_FL "TideTable" 83 1 3 := ⟨_, _, _, rfl, by decide, rfl, List.mem_of_getElem? (i := 129) (by decide +kernel), rfl, i_Po⟩
theorem fl_tb_86 : tt_FL "TideTable" 86 1 6 := ⟨_, _, _, rfl, by decide, rfl, List.mem_of_getElem? (i := 136) (by decide +kernel), rfl, i_Po⟩
theorem fl_tb_87 : tt_FL "TideTable" 87 1 4 := ⟨_, _, _, rfl, by decide, rfl, List.mem_of_getElem? (i := 131) (by decide +kernel), rfl, i_Po⟩
def y_tb_nextToAsk : MethodName := ⟨"TideTable", "nextToAsk", "(I)I"⟩
theorem mw_tb_nextToAsk : tt_Mw y_tb_nextToAsk prog_1_method_36_code 3 (some .int) 1 := ⟨List.mem_of_getElem? (i := 341) (by decide +kernel), List.mem_of_getElem? (i := 43) (by decide +kernel), by decide, by decide, by decide⟩
theorem ms_tb_nextToAsk : Cond.static y_tb_nextToAsk ∈ tt_good := List.mem_of_getElem? (i := 340) (by decide +kernel)
theorem ml_tb_90 : Cond.methodLink "TideTable" 90 y_tb_nextToAsk ∈ tt_good := List.mem_of_getElem? (i := 339) (by decide +kernel)
def y_tb_wave : MethodName := ⟨"TideTable", "wave", "(III)I"⟩
theorem mw_tb_wave : tt_Mw y_tb_wave prog_1_method_7_code 5 (some .int) 3 := ⟨List.mem_of_getElem? (i := 356) (by decide +kernel), List.mem_of_getElem? (i := 43) (by decide +kernel), by decide, by decide, by decide⟩
theorem mi_tb_wave : Cond.instanceMethod y_tb_wave ∈ tt_good := List.mem_of_getElem? (i := 354) (by decide +kernel)
theorem mz_tb_wave : Cond.selects "TideTable" y_tb_wave y_tb_wave ∈ tt_good := List.mem_of_getElem? (i := 355) (by decide +kernel)
theorem ml_tb_94 : Cond.methodLink "TideTable" 94 y_po_has ∈ tt_good := List.mem_of_getElem? (i := 357) (by decide +kernel)
theorem fl_tb_97 : tt_FL "TideTable" 97 1 5 := ⟨_, _, _, rfl, by decide, rfl, List.mem_of_getElem? (i := 133) (by decide +kernel), rfl, i_Po⟩
theorem fl_tb_101 : tt_FL "TideTable" 101 3 0 := ⟨_, _, _, rfl, by decide, rfl, List.mem_of_getElem? (i := 104) (by decide +kernel), rfl, i_Wa⟩
theorem fl_tb_106 : tt_FL "TideTable" 106 3 1 := ⟨_, _, _, rfl, by decide, rfl, List.mem_of_getElem? (i := 107) (by decide +kernel), rfl, i_Wa⟩
theorem fl_tb_109 : tt_FL "TideTable" 109 3 2 := ⟨_, _, _, rfl, by decide, rfl, List.mem_of_getElem? (i := 110) (by decide +kernel), rfl, i_Wa⟩
def y_tb_as : MethodName := ⟨"TideTable", "as", "(II)I"⟩
theorem mw_tb_as : tt_Mw y_tb_as prog_1_method_8_code 3 (some .int) 2 := ⟨List.mem_of_getElem? (i := 364) (by decide +kernel), List.mem_of_getElem? (i := 43) (by decide +kernel), by decide, by decide, by decide⟩
theorem mi_tb_as : Cond.instanceMethod y_tb_as ∈ tt_good := List.mem_of_getElem? (i := 362) (by decide +kernel)
theorem mz_tb_as : Cond.selects "TideTable" y_tb_as y_tb_as ∈ tt_good := List.mem_of_getElem? (i := 363) (by decide +kernel)
theorem ml_tb_112 : Cond.methodLink "TideTable" 112 y_po_isA ∈ tt_good := List.mem_of_getElem? (i := 365) (by decide +kernel)
def y_tb_round : MethodName := ⟨"TideTable", "round", "(I)I"⟩
theorem mw_tb_round : tt_Mw y_tb_round prog_1_method_9_code 2 (some .int) 1 := ⟨List.mem_of_getElem? (i := 372) (by decide +kernel), List.mem_of_getElem? (i := 43) (by decide +kernel), by decide, by decide, by decide⟩
theorem mi_tb_round : Cond.instanceMethod y_tb_round ∈ tt_good := List.mem_of_getElem? (i := 370) (by decide +kernel)
theorem mz_tb_round : Cond.selects "TideTable" y_tb_round y_tb_round ∈ tt_good := List.mem_of_getElem? (i := 371) (by decide +kernel)
theorem ml_tb_115 : Cond.methodLink "TideTable" 115 y_tb_roundAt ∈ tt_good := List.mem_of_getElem? (i := 373) (by decide +kernel)
def y_tb_sum : MethodName := ⟨"TideTable", "sum", "(II)I"⟩
theorem mw_tb_sum : tt_Mw y_tb_sum prog_1_method_10_code 3 (some .int) 2 := ⟨List.mem_of_getElem? (i := 380) (by decide +kernel), List.mem_of_getElem? (i := 43) (by decide +kernel), by decide, by decide, by decide⟩
theorem mi_tb_sum : Cond.instanceMethod y_tb_sum ∈ tt_good := List.mem_of_getElem? (i := 378) (by decide +kernel)
theorem mz_tb_sum : Cond.selects "TideTable" y_tb_sum y_tb_sum ∈ tt_good := List.mem_of_getElem? (i := 379) (by decide +kernel)
theorem ml_tb_118 : Cond.methodLink "TideTable" 118 y_po_sumAt ∈ tt_good := List.mem_of_getElem? (i := 381) (by decide +kernel)
def y_tb_height : MethodName := ⟨"TideTable", "height", "(II)I"⟩
theorem mw_tb_height : tt_Mw y_tb_height prog_1_method_11_code 3 (some .int) 2 := ⟨List.mem_of_getElem? (i := 395) (by decide +kernel), List.mem_of_getElem? (i := 43) (by decide +kernel), by decide, by decide, by decide⟩
theorem mi_tb_height : Cond.instanceMethod y_tb_height ∈ tt_good := List.mem_of_getElem? (i := 393) (by decide +kernel)
theorem mz_tb_height : Cond.selects "TideTable" y_tb_height y_tb_height ∈ tt_good := List.mem_of_getElem? (i := 394) (by decide +kernel)
theorem ml_tb_121 : Cond.methodLink "TideTable" 121 y_se_heightAt ∈ tt_good := List.mem_of_getElem? (i := 396) (by decide +kernel)
def y_tb_tide : MethodName := ⟨"TideTable", "tide", "(IIII)I"⟩
theorem mw_tb_tide : tt_Mw y_tb_tide prog_1_method_12_code 7 (some .int) 4 := ⟨List.mem_of_getElem? (i := 416) (by decide +kernel), List.mem_of_getElem? (i := 43) (by decide +kernel), by decide, by decide, by decide⟩
theorem mi_tb_tide : Cond.instanceMethod y_tb_tide ∈ tt_good := List.mem_of_getElem? (i := 414) (by decide +kernel)
theorem mz_tb_tide : Cond.selects "TideTable" y_tb_tide y_tb_tide ∈ tt_good := List.mem_of_getElem? (i := 415) (by decide +kernel)
theorem ml_tb_125 : Cond.methodLink "TideTable" 125 y_se_fill ∈ tt_good := List.mem_of_getElem? (i := 417) (by decide +kernel)
def y_tb_placeOfTide : MethodName := ⟨"TideTable", "placeOfTide", "(I)I"⟩
theorem mw_tb_placeOfTide : tt_Mw y_tb_placeOfTide prog_1_method_39_code 4 (some .int) 1 := ⟨List.mem_of_getElem? (i := 424) (by decide +kernel), List.mem_of_getElem? (i := 43) (by decide +kernel), by decide, by decide, by decide⟩
theorem mi_tb_placeOfTide : Cond.instanceMethod y_tb_placeOfTide ∈ tt_good := List.mem_of_getElem? (i := 423) (by decide +kernel)
theorem mz_tb_placeOfTide : Cond.selects "TideTable" y_tb_placeOfTide y_tb_placeOfTide ∈ tt_good := List.mem_of_getElem? (i := 4) (by decide +kernel)
theorem ml_tb_129 : Cond.methodLink "TideTable" 129 y_tb_placeOfTide ∈ tt_good := List.mem_of_getElem? (i := 422) (by decide +kernel)
def y_tb_turnAt : MethodName := ⟨"TideTable", "turnAt", "(I)I"⟩
theorem mw_tb_turnAt : tt_Mw y_tb_turnAt prog_1_method_40_code 5 (some .int) 1 := ⟨List.mem_of_getElem? (i := 427) (by decide +kernel), List.mem_of_getElem? (i := 43) (by decide +kernel), by decide, by decide, by decide⟩
theorem mi_tb_turnAt : Cond.instanceMethod y_tb_turnAt ∈ tt_good := List.mem_of_getElem? (i := 426) (by decide +kernel)
theorem mz_tb_turnAt : Cond.selects "TideTable" y_tb_turnAt y_tb_turnAt ∈ tt_good := List.mem_of_getElem? (i := 5) (by decide +kernel)
theorem ml_tb_132 : Cond.methodLink "TideTable" 132 y_tb_turnAt ∈ tt_good := List.mem_of_getElem? (i := 425) (by decide +kernel)
def y_tb_gate : MethodName := ⟨"TideTable", "gate", "(IIIII)I"⟩
theorem mw_tb_gate : tt_Mw y_tb_gate prog_1_method_13_code 7 (some .int) 5 := ⟨List.mem_of_getElem? (i := 434) (by decide +kernel), List.mem_of_getElem? (i := 43) (by decide +kernel), by decide, by decide, by decide⟩
theorem mi_tb_gate : Cond.instanceMethod y_tb_gate ∈ tt_good := List.mem_of_getElem? (i := 432) (by decide +kernel)
theorem mz_tb_gate : Cond.selects "TideTable" y_tb_gate y_tb_gate ∈ tt_good := List.mem_of_getElem? (i := 433) (by decide +kernel)
def y_tb_firstOfGate : MethodName := ⟨"TideTable", "firstOfGate", "(II)I"⟩
theorem mw_tb_firstOfGate : tt_Mw y_tb_firstOfGate prog_1_method_41_code 5 (some .int) 2 := ⟨List.mem_of_getElem? (i := 437) (by decide +kernel), List.mem_of_getElem? (i := 43) (by decide +kernel), by decide, by decide, by decide⟩
theorem mi_tb_firstOfGate : Cond.instanceMethod y_tb_firstOfGate ∈ tt_good := List.mem_of_getElem? (i := 436) (by decide +kernel)
theorem mz_tb_firstOfGate : Cond.selects "TideTable" y_tb_firstOfGate y_tb_firstOfGate ∈ tt_good := List.mem_of_getElem? (i := 6) (by decide +kernel)
theorem ml_tb_135 : Cond.methodLink "TideTable" 135 y_tb_firstOfGate ∈ tt_good := List.mem_of_getElem? (i := 435) (by decide +kernel)
def y_tb_lastOfGate : MethodName := ⟨"TideTable", "lastOfGate", "(II)I"⟩
theorem mw_tb_lastOfGate : tt_Mw y_tb_lastOfGate prog_1_method_42_code 4 (some .int) 2 := ⟨List.mem_of_getElem? (i := 440) (by decide +kernel), List.mem_of_getElem? (i := 43) (by decide +kernel), by decide, by decide, by decide⟩
theorem mi_tb_lastOfGate : Cond.instanceMethod y_tb_lastOfGate ∈ tt_good := List.mem_of_getElem? (i := 439) (by decide +kernel)
theorem mz_tb_lastOfGate : Cond.selects "TideTable" y_tb_lastOfGate y_tb_lastOfGate ∈ tt_good := List.mem_of_getElem? (i := 7) (by decide +kernel)
