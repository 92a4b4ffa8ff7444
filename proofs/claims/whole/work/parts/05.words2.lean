theorem ml_tb_138 : Cond.methodLink "TideTable" 138 y_tb_lastOfGate ∈ tt_good := List.mem_of_getElem? (i := 438) (by decide +kernel)
def y_tb_dry : MethodName := ⟨"TideTable", "dry", "(III)I"⟩
theorem mw_tb_dry : tt_Mw y_tb_dry prog_1_method_14_code 6 (some .int) 3 := ⟨List.mem_of_getElem? (i := 444) (by decide +kernel), List.mem_of_getElem? (i := 43) (by decide +kernel), by decide, by decide, by decide⟩
theorem mi_tb_dry : Cond.instanceMethod y_tb_dry ∈ tt_good := List.mem_of_getElem? (i := 442) (by decide +kernel)
theorem mz_tb_dry : Cond.selects "TideTable" y_tb_dry y_tb_dry ∈ tt_good := List.mem_of_getElem? (i := 443) (by decide +kernel)
def y_tb_stream : MethodName := ⟨"TideTable", "stream", "(III)I"⟩
theorem mw_tb_stream : tt_Mw y_tb_stream prog_1_method_15_code 4 (some .int) 3 := ⟨List.mem_of_getElem? (i := 448) (by decide +kernel), List.mem_of_getElem? (i := 43) (by decide +kernel), by decide, by decide, by decide⟩
theorem mi_tb_stream : Cond.instanceMethod y_tb_stream ∈ tt_good := List.mem_of_getElem? (i := 446) (by decide +kernel)
theorem mz_tb_stream : Cond.selects "TideTable" y_tb_stream y_tb_stream ∈ tt_good := List.mem_of_getElem? (i := 447) (by decide +kernel)
def y_tb_slack : MethodName := ⟨"TideTable", "slack", "(III)I"⟩
theorem mw_tb_slack : tt_Mw y_tb_slack prog_1_method_16_code 8 (some .int) 3 := ⟨List.mem_of_getElem? (i := 452) (by decide +kernel), List.mem_of_getElem? (i := 43) (by decide +kernel), by decide, by decide, by decide⟩
theorem mi_tb_slack : Cond.instanceMethod y_tb_slack ∈ tt_good := List.mem_of_getElem? (i := 450) (by decide +kernel)
theorem mz_tb_slack : Cond.selects "TideTable" y_tb_slack y_tb_slack ∈ tt_good := List.mem_of_getElem? (i := 451) (by decide +kernel)
def y_tb_trip : MethodName := ⟨"TideTable", "trip", "(IIII)I"⟩
theorem mw_tb_trip : tt_Mw y_tb_trip prog_1_method_17_code 5 (some .int) 4 := ⟨List.mem_of_getElem? (i := 456) (by decide +kernel), List.mem_of_getElem? (i := 43) (by decide +kernel), by decide, by decide, by decide⟩
theorem mi_tb_trip : Cond.instanceMethod y_tb_trip ∈ tt_good := List.mem_of_getElem? (i := 454) (by decide +kernel)
theorem mz_tb_trip : Cond.selects "TideTable" y_tb_trip y_tb_trip ∈ tt_good := List.mem_of_getElem? (i := 455) (by decide +kernel)
def y_tb_tripFrom : MethodName := ⟨"TideTable", "tripFrom", "(II)I"⟩
theorem mw_tb_tripFrom : tt_Mw y_tb_tripFrom prog_1_method_43_code 6 (some .int) 2 := ⟨List.mem_of_getElem? (i := 459) (by decide +kernel), List.mem_of_getElem? (i := 43) (by decide +kernel), by decide, by decide, by decide⟩
theorem mi_tb_tripFrom : Cond.instanceMethod y_tb_tripFrom ∈ tt_good := List.mem_of_getElem? (i := 458) (by decide +kernel)
theorem mz_tb_tripFrom : Cond.selects "TideTable" y_tb_tripFrom y_tb_tripFrom ∈ tt_good := List.mem_of_getElem? (i := 8) (by decide +kernel)
theorem ml_tb_141 : Cond.methodLink "TideTable" 141 y_tb_tripFrom ∈ tt_good := List.mem_of_getElem? (i := 457) (by decide +kernel)
def y_tb_leave : MethodName := ⟨"TideTable", "leave", "(IIIII)I"⟩
theorem mw_tb_leave : tt_Mw y_tb_leave prog_1_method_18_code 8 (some .int) 5 := ⟨List.mem_of_getElem? (i := 464) (by decide +kernel), List.mem_of_getElem? (i := 43) (by decide +kernel), by decide, by decide, by decide⟩
theorem mi_tb_leave : Cond.instanceMethod y_tb_leave ∈ tt_good := List.mem_of_getElem? (i := 462) (by decide +kernel)
theorem mz_tb_leave : Cond.selects "TideTable" y_tb_leave y_tb_leave ∈ tt_good := List.mem_of_getElem? (i := 463) (by decide +kernel)
def y_tb_mean : MethodName := ⟨"TideTable", "mean", "(II)I"⟩
theorem mw_tb_mean : tt_Mw y_tb_mean prog_1_method_19_code 4 (some .int) 2 := ⟨List.mem_of_getElem? (i := 468) (by decide +kernel), List.mem_of_getElem? (i := 43) (by decide +kernel), by decide, by decide, by decide⟩
theorem mi_tb_mean : Cond.instanceMethod y_tb_mean ∈ tt_good := List.mem_of_getElem? (i := 466) (by decide +kernel)
theorem mz_tb_mean : Cond.selects "TideTable" y_tb_mean y_tb_mean ∈ tt_good := List.mem_of_getElem? (i := 467) (by decide +kernel)
def y_tb_mark : MethodName := ⟨"TideTable", "mark", "(II)I"⟩
theorem mw_tb_mark : tt_Mw y_tb_mark prog_1_method_20_code 4 (some .int) 2 := ⟨List.mem_of_getElem? (i := 472) (by decide +kernel), List.mem_of_getElem? (i := 43) (by decide +kernel), by decide, by decide, by decide⟩
theorem mi_tb_mark : Cond.instanceMethod y_tb_mark ∈ tt_good := List.mem_of_getElem? (i := 470) (by decide +kernel)
theorem mz_tb_mark : Cond.selects "TideTable" y_tb_mark y_tb_mark ∈ tt_good := List.mem_of_getElem? (i := 471) (by decide +kernel)
def y_tb_ratio : MethodName := ⟨"TideTable", "ratio", "(II)I"⟩
theorem mw_tb_ratio : tt_Mw y_tb_ratio prog_1_method_21_code 4 (some .int) 2 := ⟨List.mem_of_getElem? (i := 476) (by decide +kernel), List.mem_of_getElem? (i := 43) (by decide +kernel), by decide, by decide, by decide⟩
theorem mi_tb_ratio : Cond.instanceMethod y_tb_ratio ∈ tt_good := List.mem_of_getElem? (i := 474) (by decide +kernel)
theorem mz_tb_ratio : Cond.selects "TideTable" y_tb_ratio y_tb_ratio ∈ tt_good := List.mem_of_getElem? (i := 475) (by decide +kernel)
def y_tb_add : MethodName := ⟨"TideTable", "add", "(IIII)I"⟩
theorem mw_tb_add : tt_Mw y_tb_add prog_1_method_22_code 6 (some .int) 4 := ⟨List.mem_of_getElem? (i := 480) (by decide +kernel), List.mem_of_getElem? (i := 43) (by decide +kernel), by decide, by decide, by decide⟩
theorem mi_tb_add : Cond.instanceMethod y_tb_add ∈ tt_good := List.mem_of_getElem? (i := 478) (by decide +kernel)
theorem mz_tb_add : Cond.selects "TideTable" y_tb_add y_tb_add ∈ tt_good := List.mem_of_getElem? (i := 479) (by decide +kernel)
theorem ml_tb_144 : Cond.methodLink "TideTable" 144 y_po_putWave ∈ tt_good := List.mem_of_getElem? (i := 481) (by decide +kernel)
def y_tb_take : MethodName := ⟨"TideTable", "take", "(II)I"⟩
theorem mw_tb_take : tt_Mw y_tb_take prog_1_method_23_code 3 (some .int) 2 := ⟨List.mem_of_getElem? (i := 485) (by decide +kernel), List.mem_of_getElem? (i := 43) (by decide +kernel), by decide, by decide, by decide⟩
theorem mi_tb_take : Cond.instanceMethod y_tb_take ∈ tt_good := List.mem_of_getElem? (i := 483) (by decide +kernel)
theorem mz_tb_take : Cond.selects "TideTable" y_tb_take y_tb_take ∈ tt_good := List.mem_of_getElem? (i := 484) (by decide +kernel)
theorem ml_tb_148 : Cond.methodLink "TideTable" 148 y_po_dropWave ∈ tt_good := List.mem_of_getElem? (i := 486) (by decide +kernel)
def y_tb_be : MethodName := ⟨"TideTable", "be", "(II)I"⟩
theorem mw_tb_be : tt_Mw y_tb_be prog_1_method_24_code 4 (some .int) 2 := ⟨List.mem_of_getElem? (i := 493) (by decide +kernel), List.mem_of_getElem? (i := 43) (by decide +kernel), by decide, by decide, by decide⟩
theorem mi_tb_be : Cond.instanceMethod y_tb_be ∈ tt_good := List.mem_of_getElem? (i := 491) (by decide +kernel)
theorem mz_tb_be : Cond.selects "TideTable" y_tb_be y_tb_be ∈ tt_good := List.mem_of_getElem? (i := 492) (by decide +kernel)
def y_tb_see : MethodName := ⟨"TideTable", "see", "(IIZ)I"⟩
theorem mw_tb_see : tt_Mw y_tb_see prog_1_method_25_code 4 (some .int) 3 := ⟨List.mem_of_getElem? (i := 497) (by decide +kernel), List.mem_of_getElem? (i := 43) (by decide +kernel), by decide, by decide, by decide⟩
theorem mi_tb_see : Cond.instanceMethod y_tb_see ∈ tt_good := List.mem_of_getElem? (i := 495) (by decide +kernel)
theorem mz_tb_see : Cond.selects "TideTable" y_tb_see y_tb_see ∈ tt_good := List.mem_of_getElem? (i := 496) (by decide +kernel)
theorem gs_tb_152 : Cond.fieldLink "TideTable" 152 "TideTable" (tt_sN 1) "[I" ∈ tt_good := List.mem_of_getElem? (i := 342) (by decide +kernel)
theorem fl_tb_155 : tt_FL "TideTable" 155 2 2 := ⟨_, _, _, rfl, by decide, rfl, List.mem_of_getElem? (i := 160) (by decide +kernel), rfl, i_Se⟩
def y_tb_forget : MethodName := ⟨"TideTable", "forget", "()I"⟩
theorem mw_tb_forget : tt_Mw y_tb_forget prog_1_method_26_code 3 (some .int) 0 := ⟨List.mem_of_getElem? (i := 501) (by decide +kernel), List.mem_of_getElem? (i := 43) (by decide +kernel), by decide, by decide, by decide⟩
theorem mi_tb_forget : Cond.instanceMethod y_tb_forget ∈ tt_good := List.mem_of_getElem? (i := 499) (by decide +kernel)
theorem mz_tb_forget : Cond.selects "TideTable" y_tb_forget y_tb_forget ∈ tt_good := List.mem_of_getElem? (i := 500) (by decide +kernel)
def y_tb_drawn : MethodName := ⟨"TideTable", "drawn", "(III)I"⟩
theorem mw_tb_drawn : tt_Mw y_tb_drawn prog_1_method_27_code 10 (some .int) 3 := ⟨List.mem_of_getElem? (i := 505) (by decide +kernel), List.mem_of_getElem? (i := 43) (by decide +kernel), by decide, by decide, by decide⟩
theorem mi_tb_drawn : Cond.instanceMethod y_tb_drawn ∈ tt_good := List.mem_of_getElem? (i := 503) (by decide +kernel)
theorem mz_tb_drawn : Cond.selects "TideTable" y_tb_drawn y_tb_drawn ∈ tt_good := List.mem_of_getElem? (i := 504) (by decide +kernel)
def y_tb_nextSeed : MethodName := ⟨"TideTable", "nextSeed", "(I)I"⟩
theorem mw_tb_nextSeed : tt_Mw y_tb_nextSeed prog_1_method_38_code 1 (some .int) 1 := ⟨List.mem_of_getElem? (i := 508) (by decide +kernel), List.mem_of_getElem? (i := 43) (by decide +kernel), by decide, by decide, by decide⟩
theorem ms_tb_nextSeed : Cond.static y_tb_nextSeed ∈ tt_good := List.mem_of_getElem? (i := 507) (by decide +kernel)
theorem ml_tb_158 : Cond.methodLink "TideTable" 158 y_tb_nextSeed ∈ tt_good := List.mem_of_getElem? (i := 506) (by decide +kernel)
def y_tb_image : MethodName := ⟨"TideTable", "image", "()I"⟩
theorem mw_tb_image : tt_Mw y_tb_image prog_1_method_28_code 1 (some .int) 0 := ⟨List.mem_of_getElem? (i := 514) (by decide +kernel), List.mem_of_getElem? (i := 43) (by decide +kernel), by decide, by decide, by decide⟩
theorem mi_tb_image : Cond.instanceMethod y_tb_image ∈ tt_good := List.mem_of_getElem? (i := 512) (by decide +kernel)
theorem mz_tb_image : Cond.selects "TideTable" y_tb_image y_tb_image ∈ tt_good := List.mem_of_getElem? (i := 513) (by decide +kernel)
theorem ml_tb_161 : Cond.methodLink "TideTable" 161 y_se_become ∈ tt_good := List.mem_of_getElem? (i := 515) (by decide +kernel)
def y_tb_restore : MethodName := ⟨"TideTable", "restore", "()I"⟩
theorem mw_tb_restore : tt_Mw y_tb_restore prog_1_method_29_code 1 (some .int) 0 := ⟨List.mem_of_getElem? (i := 528) (by decide +kernel), List.mem_of_getElem? (i := 43) (by decide +kernel), by decide, by decide, by decide⟩
theorem mi_tb_restore : Cond.instanceMethod y_tb_restore ∈ tt_good := List.mem_of_getElem? (i := 526) (by decide +kernel)
theorem mz_tb_restore : Cond.selects "TideTable" y_tb_restore y_tb_restore ∈ tt_good := List.mem_of_getElem? (i := 527) (by decide +kernel)
def y_tb_count : MethodName := ⟨"TideTable", "count", "(I)I"⟩
theorem mw_tb_count : tt_Mw y_tb_count prog_1_method_30_code 2 (some .int) 1 := ⟨List.mem_of_getElem? (i := 532) (by decide +kernel), List.mem_of_getElem? (i := 43) (by decide +kernel), by decide, by decide, by decide⟩
theorem mi_tb_count : Cond.instanceMethod y_tb_count ∈ tt_good := List.mem_of_getElem? (i := 530) (by decide +kernel)
theorem mz_tb_count : Cond.selects "TideTable" y_tb_count y_tb_count ∈ tt_good := List.mem_of_getElem? (i := 531) (by decide +kernel)
theorem ml_tb_164 : Cond.methodLink "TideTable" 164 y_se_wavesOfAll ∈ tt_good := List.mem_of_getElem? (i := 533) (by decide +kernel)
theorem ml_tb_167 : Cond.methodLink "TideTable" 167 y_se_followers ∈ tt_good := List.mem_of_getElem? (i := 537) (by decide +kernel)
theorem ml_tb_170 : Cond.methodLink "TideTable" 170 y_se_greatestOnDay0 ∈ tt_good := List.mem_of_getElem? (i := 541) (by decide +kernel)
def y_tb_digest : MethodName := ⟨"TideTable", "digest", "()J"⟩
theorem mw_tb_digest : tt_Mw y_tb_digest prog_1_method_31_code 4 (some .long) 0 := ⟨List.mem_of_getElem? (i := 549) (by decide +kernel), List.mem_of_getElem? (i := 43) (by decide +kernel), by decide, by decide, by decide⟩
theorem mi_tb_digest : Cond.instanceMethod y_tb_digest ∈ tt_good := List.mem_of_getElem? (i := 547) (by decide +kernel)
theorem mz_tb_digest : Cond.selects "TideTable" y_tb_digest y_tb_digest ∈ tt_good := List.mem_of_getElem? (i := 548) (by decide +kernel)
theorem k_tb_173 : Cond.constantLong "TideTable" 173 1423 ∈ tt_good := List.mem_of_getElem? (i := 550) (by decide +kernel)
def y_tb_withPort : MethodName := ⟨"TideTable", "withPort", "(JI)J"⟩
theorem mw_tb_withPort : tt_Mw y_tb_withPort prog_1_method_32_code 10 (some .long) 2 := ⟨List.mem_of_getElem? (i := 553) (by decide +kernel), List.mem_of_getElem? (i := 43) (by decide +kernel), by decide, by decide, by decide⟩
theorem mi_tb_withPort : Cond.instanceMethod y_tb_withPort ∈ tt_good := List.mem_of_getElem? (i := 552) (by decide +kernel)
theorem mz_tb_withPort : Cond.selects "TideTable" y_tb_withPort y_tb_withPort ∈ tt_good := List.mem_of_getElem? (i := 9) (by decide +kernel)
theorem ml_tb_175 : Cond.methodLink "TideTable" 175 y_tb_withPort ∈ tt_good := List.mem_of_getElem? (i := 551) (by decide +kernel)
def y_tb_with : MethodName := ⟨"TideTable", "with", "(JI)J"⟩
theorem mw_tb_with : tt_Mw y_tb_with prog_1_method_33_code 3 (some .long) 2 := ⟨List.mem_of_getElem? (i := 557) (by decide +kernel), List.mem_of_getElem? (i := 43) (by decide +kernel), by decide, by decide, by decide⟩
theorem ms_tb_with : Cond.static y_tb_with ∈ tt_good := List.mem_of_getElem? (i := 556) (by decide +kernel)
theorem ml_tb_179 : Cond.methodLink "TideTable" 179 y_tb_with ∈ tt_good := List.mem_of_getElem? (i := 555) (by decide +kernel)
theorem ml_tb_182 : Cond.methodLink "TideTable" 182 y_tb_count ∈ tt_good := List.mem_of_getElem? (i := 561) (by decide +kernel)
theorem ml_tb_185 : Cond.methodLink "TideTable" 185 y_tb_port ∈ tt_good := List.mem_of_getElem? (i := 554) (by decide +kernel)
theorem ml_tb_188 : Cond.methodLink "TideTable" 188 y_tb_wave ∈ tt_good := List.mem_of_getElem? (i := 559) (by decide +kernel)
theorem gs_tb_192 : Cond.fieldLink "TideTable" 192 "TideTable" (tt_sN 2) "[I" ∈ tt_good := List.mem_of_getElem? (i := 560) (by decide +kernel)
theorem k_tb_195 : Cond.constantLong "TideTable" 195 31 ∈ tt_good := List.mem_of_getElem? (i := 558) (by decide +kernel)
theorem gs_tb_197 : Cond.fieldLink "TideTable" 197 "TideTable" (tt_sN 0) "[I" ∈ tt_good := List.mem_of_getElem? (i := 376) (by decide +kernel)
def y_tb_leftAtWorst : MethodName := ⟨"TideTable", "leftAtWorst", "(II)I"⟩
theorem mw_tb_leftAtWorst : tt_Mw y_tb_leftAtWorst prog_1_method_37_code 2 (some .int) 2 := ⟨List.mem_of_getElem? (i := 345) (by decide +kernel), List.mem_of_getElem? (i := 43) (by decide +kernel), by decide, by decide, by decide⟩
theorem ms_tb_leftAtWorst : Cond.static y_tb_leftAtWorst ∈ tt_good := List.mem_of_getElem? (i := 344) (by decide +kernel)
theorem ml_tb_200 : Cond.methodLink "TideTable" 200 y_tb_leftAtWorst ∈ tt_good := List.mem_of_getElem? (i := 343) (by decide +kernel)
def y_in_bitCount : MethodName := ⟨"java/lang/Integer", "bitCount", "(I)I"⟩
theorem mw_in_bitCount : tt_Mw y_in_bitCount prog_9_method_49_code 1 (some .int) 1 := ⟨List.mem_of_getElem? (i := 348) (by decide +kernel), List.mem_of_getElem? (i := 55) (by decide +kernel), by decide, by decide, by decide⟩
theorem ms_in_bitCount : Cond.static y_in_bitCount ∈ tt_good := List.mem_of_getElem? (i := 347) (by decide +kernel)
theorem ml_tb_203 : Cond.methodLink "TideTable" 203 y_in_bitCount ∈ tt_good := List.mem_of_getElem? (i := 346) (by decide +kernel)
theorem ml_tb_208 : Cond.methodLink "TideTable" 208 y_ma_max ∈ tt_good := List.mem_of_getElem? (i := 352) (by decide +kernel)
theorem k_tb_213 : Cond.constant "TideTable" 213 1103515245 ∈ tt_good := List.mem_of_getElem? (i := 509) (by decide +kernel)
theorem k_tb_214 : Cond.constant "TideTable" 214 2147483647 ∈ tt_good := List.mem_of_getElem? (i := 510) (by decide +kernel)
def y_in_compare : MethodName := ⟨"java/lang/Integer", "compare", "(II)I"⟩
theorem mw_in_compare : tt_Mw y_in_compare prog_9_method_40_code 2 (some .int) 2 := ⟨List.mem_of_getElem? (i := 430) (by decide +kernel), List.mem_of_getElem? (i := 55) (by decide +kernel), by decide, by decide, by decide⟩
theorem ms_in_compare : Cond.static y_in_compare ∈ tt_good := List.mem_of_getElem? (i := 429) (by decide +kernel)
theorem ml_tb_215 : Cond.methodLink "TideTable" 215 y_in_compare ∈ tt_good := List.mem_of_getElem? (i := 428) (by decide +kernel)
theorem ml_tb_218 : Cond.methodLink "TideTable" 218 y_ma_floorDiv ∈ tt_good := List.mem_of_getElem? (i := 460) (by decide +kernel)
def y_mo_init : MethodName := ⟨"TideTableModel", "<init>", "()V"⟩
theorem mw_mo_init : tt_Mw y_mo_init prog_7_method_1_code 3 none 0 := ⟨List.mem_of_getElem? (i := 566) (by decide +kernel), List.mem_of_getElem? (i := 48) (by decide +kernel), by decide, by decide, by decide⟩
theorem mi_mo_init : Cond.instanceMethod y_mo_init ∈ tt_good := List.mem_of_getElem? (i := 565) (by decide +kernel)
theorem fl_mo_7 : tt_FL "TideTableModel" 7 5 2 := ⟨_, _, _, rfl, by decide, rfl, List.mem_of_getElem? (i := 573) (by decide +kernel), rfl, i_Mo⟩
theorem fl_mo_13 : tt_FL "TideTableModel" 13 5 3 := ⟨_, _, _, rfl, by decide, rfl, List.mem_of_getElem? (i := 574) (by decide +kernel), rfl, i_Mo⟩
theorem fl_mo_16 : tt_FL "TideTableModel" 16 5 4 := ⟨_, _, _, rfl, by decide, rfl, List.mem_of_getElem? (i := 575) (by decide +kernel), rfl, i_Mo⟩
theorem fl_mo_19 : tt_FL "TideTableModel" 19 5 5 := ⟨_, _, _, rfl, by decide, rfl, List.mem_of_getElem? (i := 576) (by decide +kernel), rfl, i_Mo⟩
theorem fl_mo_22 : tt_FL "TideTableModel" 22 5 6 := ⟨_, _, _, rfl, by decide, rfl, List.mem_of_getElem? (i := 577) (by decide +kernel), rfl, i_Mo⟩
theorem fl_mo_25 : tt_FL "TideTableModel" 25 5 7 := ⟨_, _, _, rfl, by decide, rfl, List.mem_of_getElem? (i := 578) (by decide +kernel), rfl, i_Mo⟩
theorem fl_mo_28 : tt_FL "TideTableModel" 28 5 8 := ⟨_, _, _, rfl, by decide, rfl, List.mem_of_getElem? (i := 579) (by decide +kernel), rfl, i_Mo⟩
theorem fl_mo_31 : tt_FL "TideTableModel" 31 5 10 := ⟨_, _, _, rfl, by decide, rfl, List.mem_of_getElem? (i := 581) (by decide +kernel), rfl, i_Mo⟩
theorem fl_mo_34 : tt_FL "TideTableModel" 34 5 11 := ⟨_, _, _, rfl, by decide, rfl, List.mem_of_getElem? (i := 582) (by decide +kernel), rfl, i_Mo⟩
theorem fl_mo_37 : tt_FL "TideTableModel" 37 5 12 := ⟨_, _, _, rfl, by decide, rfl, List.mem_of_getElem? (i := 583) (by decide +kernel), rfl, i_Mo⟩
theorem fl_mo_40 : tt_FL "TideTableModel" 40 5 14 := ⟨_, _, _, rfl, by decide, rfl, List.mem_of_getElem? (i := 585) (by decide +kernel), rfl, i_Mo⟩
theorem fl_mo_44 : tt_FL "TideTableModel" 44 5 18 := ⟨_, _, _, rfl, by decide, rfl, List.mem_of_getElem? (i := 589) (by decide +kernel), rfl, i_Mo⟩
theorem fl_mo_47 : tt_FL "TideTableModel" 47 5 19 := ⟨_, _, _, rfl, by decide, rfl, List.mem_of_getElem? (i := 590) (by decide +kernel), rfl, i_Mo⟩
theorem fl_mo_50 : tt_FL "TideTableModel" 50 5 20 := ⟨_, _, _, rfl, by decide, rfl, List.mem_of_getElem? (i := 591) (by decide +kernel), rfl, i_Mo⟩
theorem fl_mo_53 : tt_FL "TideTableModel" 53 5 21 := ⟨_, _, _, rfl, by decide, rfl, List.mem_of_getElem? (i := 592) (by decide +kernel), rfl, i_Mo⟩
theorem fl_mo_56 : tt_FL "TideTableModel" 56 5 22 := ⟨_, _, _, rfl, by decide, rfl, List.mem_of_getElem? (i := 593) (by decide +kernel), rfl, i_Mo⟩
theorem fl_mo_59 : tt_FL "TideTableModel" 59 5 23 := ⟨_, _, _, rfl, by decide, rfl, List.mem_of_getElem? (i := 594) (by decide +kernel), rfl, i_Mo⟩
theorem fl_mo_62 : tt_FL "TideTableModel" 62 5 29 := ⟨_, _, _, rfl, by decide, rfl, List.mem_of_getElem? (i := 600) (by decide +kernel), rfl, i_Mo⟩
theorem fl_mo_65 : tt_FL "TideTableModel" 65 5 30 := ⟨_, _, _, rfl, by decide, rfl, List.mem_of_getElem? (i := 601) (by decide +kernel), rfl, i_Mo⟩
theorem fl_mo_68 : tt_FL "TideTableModel" 68 5 31 := ⟨_, _, _, rfl, by decide, rfl, List.mem_of_getElem? (i := 602) (by decide +kernel), rfl, i_Mo⟩
theorem fl_mo_71 : tt_FL "TideTableModel" 71 5 32 := ⟨_, _, _, rfl, by decide, rfl, List.mem_of_getElem? (i := 603) (by decide +kernel), rfl, i_Mo⟩
theorem fl_mo_74 : tt_FL "TideTableModel" 74 5 33 := ⟨_, _, _, rfl, by decide, rfl, List.mem_of_getElem? (i := 604) (by decide +kernel), rfl, i_Mo⟩
theorem fl_mo_77 : tt_FL "TideTableModel" 77 5 34 := ⟨_, _, _, rfl, by decide, rfl, List.mem_of_getElem? (i := 605) (by decide +kernel), rfl, i_Mo⟩
theorem fl_mo_80 : tt_FL "TideTableModel" 80 5 35 := ⟨_, _, _, rfl, by decide, rfl, List.mem_of_getElem? (i := 606) (by decide +kernel), rfl, i_Mo⟩
theorem fl_mo_83 : tt_FL "TideTableModel" 83 5 36 := ⟨_, _, _, rfl, by decide, rfl, List.mem_of_getElem? (i := 607) (by decide +kernel), rfl, i_Mo⟩
theorem fl_mo_86 : tt_FL "TideTableModel" 86 5 37 := ⟨_, _, _, rfl, by decide, rfl, List.mem_of_getElem? (i := 608) (by decide +kernel), rfl, i_Mo⟩
def y_mo_quarter : MethodName := ⟨"TideTableModel", "quarter", "(I)I"⟩
theorem mw_mo_quarter : tt_Mw y_mo_quarter prog_7_method_3_code 1 (some .int) 1 := ⟨List.mem_of_getElem? (i := 570) (by decide +kernel), List.mem_of_getElem? (i := 48) (by decide +kernel), by decide, by decide, by decide⟩
theorem ms_mo_quarter : Cond.static y_mo_quarter ∈ tt_good := List.mem_of_getElem? (i := 569) (by decide +kernel)
theorem ml_mo_89 : Cond.methodLink "TideTableModel" 89 y_mo_quarter ∈ tt_good := List.mem_of_getElem? (i := 568) (by decide +kernel)
def y_mo_within : MethodName := ⟨"TideTableModel", "within", "(III)Z"⟩
theorem mw_mo_within : tt_Mw y_mo_within prog_7_method_4_code 3 (some .boolean) 3 := ⟨List.mem_of_getElem? (i := 695) (by decide +kernel), List.mem_of_getElem? (i := 48) (by decide +kernel), by decide, by decide, by decide⟩
theorem ms_mo_within : Cond.static y_mo_within ∈ tt_good := List.mem_of_getElem? (i := 694) (by decide +kernel)
def y_mo_isIn : MethodName := ⟨"TideTableModel", "isIn", "(II)Z"⟩
theorem mw_mo_isIn : tt_Mw y_mo_isIn prog_7_method_5_code 2 (some .boolean) 2 := ⟨List.mem_of_getElem? (i := 751) (by decide +kernel), List.mem_of_getElem? (i := 48) (by decide +kernel), by decide, by decide, by decide⟩
theorem ms_mo_isIn : Cond.static y_mo_isIn ∈ tt_good := List.mem_of_getElem? (i := 750) (by decide +kernel)
def y_mo_size : MethodName := ⟨"TideTableModel", "size", "(I)I"⟩
theorem mw_mo_size : tt_Mw y_mo_size prog_7_method_6_code 3 (some .int) 1 := ⟨List.mem_of_getElem? (i := 754) (by decide +kernel), List.mem_of_getElem? (i := 48) (by decide +kernel), by decide, by decide, by decide⟩
theorem ms_mo_size : Cond.static y_mo_size ∈ tt_good := List.mem_of_getElem? (i := 753) (by decide +kernel)
def y_mo_by : MethodName := ⟨"TideTableModel", "by", "(II)I"⟩
theorem mw_mo_by : tt_Mw y_mo_by prog_7_method_7_code 3 (some .int) 2 := ⟨List.mem_of_getElem? (i := 788) (by decide +kernel), List.mem_of_getElem? (i := 48) (by decide +kernel), by decide, by decide, by decide⟩
theorem ms_mo_by : Cond.static y_mo_by ∈ tt_good := List.mem_of_getElem? (i := 787) (by decide +kernel)
def y_mo_letter : MethodName := ⟨"TideTableModel", "letter", "(I)I"⟩
theorem mw_mo_letter : tt_Mw y_mo_letter prog_7_method_8_code 2 (some .int) 1 := ⟨List.mem_of_getElem? (i := 692) (by decide +kernel), List.mem_of_getElem? (i := 48) (by decide +kernel), by decide, by decide, by decide⟩
theorem mi_mo_letter : Cond.instanceMethod y_mo_letter ∈ tt_good := List.mem_of_getElem? (i := 690) (by decide +kernel)
theorem mz_mo_letter : Cond.selects "TideTableModel" y_mo_letter y_mo_letter ∈ tt_good := List.mem_of_getElem? (i := 691) (by decide +kernel)
theorem ml_mo_93 : Cond.methodLink "TideTableModel" 93 y_mo_within ∈ tt_good := List.mem_of_getElem? (i := 693) (by decide +kernel)
theorem fl_mo_97 : tt_FL "TideTableModel" 97 5 13 := ⟨_, _, _, rfl, by decide, rfl, List.mem_of_getElem? (i := 584) (by decide +kernel), rfl, i_Mo⟩
theorem fp_5_13 : tt_FP 5 13 .int := ⟨_, _, _, t_Mo, rfl, t_Mo_ok, n_Mo, rfl, by decide +kernel⟩
def y_mo_blank : MethodName := ⟨"TideTableModel", "blank", "()I"⟩
theorem mw_mo_blank : tt_Mw y_mo_blank prog_7_method_9_code 2 (some .int) 0 := ⟨List.mem_of_getElem? (i := 699) (by decide +kernel), List.mem_of_getElem? (i := 48) (by decide +kernel), by decide, by decide, by decide⟩
theorem mi_mo_blank : Cond.instanceMethod y_mo_blank ∈ tt_good := List.mem_of_getElem? (i := 697) (by decide +kernel)
theorem mz_mo_blank : Cond.selects "TideTableModel" y_mo_blank y_mo_blank ∈ tt_good := List.mem_of_getElem? (i := 698) (by decide +kernel)
def y_mo_kindBy : MethodName := ⟨"TideTableModel", "kindBy", "(I)I"⟩
theorem mw_mo_kindBy : tt_Mw y_mo_kindBy prog_7_method_10_code 1 (some .int) 1 := ⟨List.mem_of_getElem? (i := 715) (by decide +kernel), List.mem_of_getElem? (i := 48) (by decide +kernel), by decide, by decide, by decide⟩
theorem ms_mo_kindBy : Cond.static y_mo_kindBy ∈ tt_good := List.mem_of_getElem? (i := 714) (by decide +kernel)
def y_mo_at : MethodName := ⟨"TideTableModel", "at", "(I)I"⟩
theorem mw_mo_at : tt_Mw y_mo_at prog_7_method_11_code 2 (some .int) 1 := ⟨List.mem_of_getElem? (i := 712) (by decide +kernel), List.mem_of_getElem? (i := 48) (by decide +kernel), by decide, by decide, by decide⟩
theorem mi_mo_at : Cond.instanceMethod y_mo_at ∈ tt_good := List.mem_of_getElem? (i := 711) (by decide +kernel)
theorem mz_mo_at : Cond.selects "TideTableModel" y_mo_at y_mo_at ∈ tt_good := List.mem_of_getElem? (i := 12) (by decide +kernel)
def y_mo_isFigure : MethodName := ⟨"TideTableModel", "isFigure", "(I)Z"⟩
theorem mw_mo_isFigure : tt_Mw y_mo_isFigure prog_7_method_12_code 2 (some .boolean) 1 := ⟨List.mem_of_getElem? (i := 721) (by decide +kernel), List.mem_of_getElem? (i := 48) (by decide +kernel), by decide, by decide, by decide⟩
theorem mi_mo_isFigure : Cond.instanceMethod y_mo_isFigure ∈ tt_good := List.mem_of_getElem? (i := 720) (by decide +kernel)
theorem mz_mo_isFigure : Cond.selects "TideTableModel" y_mo_isFigure y_mo_isFigure ∈ tt_good := List.mem_of_getElem? (i := 14) (by decide +kernel)
theorem ml_mo_101 : Cond.methodLink "TideTableModel" 101 y_mo_at ∈ tt_good := List.mem_of_getElem? (i := 710) (by decide +kernel)
def y_mo_readNumber : MethodName := ⟨"TideTableModel", "readNumber", "(III)I"⟩
theorem mw_mo_readNumber : tt_Mw y_mo_readNumber prog_7_method_13_code 4 (some .int) 3 := ⟨List.mem_of_getElem? (i := 718) (by decide +kernel), List.mem_of_getElem? (i := 48) (by decide +kernel), by decide, by decide, by decide⟩
theorem mi_mo_readNumber : Cond.instanceMethod y_mo_readNumber ∈ tt_good := List.mem_of_getElem? (i := 717) (by decide +kernel)
theorem mz_mo_readNumber : Cond.selects "TideTableModel" y_mo_readNumber y_mo_readNumber ∈ tt_good := List.mem_of_getElem? (i := 13) (by decide +kernel)
theorem ml_mo_104 : Cond.methodLink "TideTableModel" 104 y_mo_isFigure ∈ tt_good := List.mem_of_getElem? (i := 719) (by decide +kernel)
theorem fl_mo_108 : tt_FL "TideTableModel" 108 5 16 := ⟨_, _, _, rfl, by decide, rfl, List.mem_of_getElem? (i := 587) (by decide +kernel), rfl, i_Mo⟩
theorem fp_5_16 : tt_FP 5 16 .boolean := ⟨_, _, _, t_Mo, rfl, t_Mo_ok, n_Mo, rfl, by decide +kernel⟩
theorem fl_mo_112 : tt_FL "TideTableModel" 112 5 24 := ⟨_, _, _, rfl, by decide, rfl, List.mem_of_getElem? (i := 595) (by decide +kernel), rfl, i_Mo⟩
theorem fp_5_24 : tt_FP 5 24 .int := ⟨_, _, _, t_Mo, rfl, t_Mo_ok, n_Mo, rfl, by decide +kernel⟩
def y_mo_readWave : MethodName := ⟨"TideTableModel", "readWave", "(I)I"⟩
theorem mw_mo_readWave : tt_Mw y_mo_readWave prog_7_method_14_code 5 (some .int) 1 := ⟨List.mem_of_getElem? (i := 724) (by decide +kernel), List.mem_of_getElem? (i := 48) (by decide +kernel), by decide, by decide, by decide⟩
theorem mi_mo_readWave : Cond.instanceMethod y_mo_readWave ∈ tt_good := List.mem_of_getElem? (i := 723) (by decide +kernel)
theorem mz_mo_readWave : Cond.selects "TideTableModel" y_mo_readWave y_mo_readWave ∈ tt_good := List.mem_of_getElem? (i := 15) (by decide +kernel)
theorem fl_mo_115 : tt_FL "TideTableModel" 115 5 17 := ⟨_, _, _, rfl, by decide, rfl, List.mem_of_getElem? (i := 588) (by decide +kernel), rfl, i_Mo⟩
theorem ml_mo_118 : Cond.methodLink "TideTableModel" 118 y_mo_readNumber ∈ tt_good := List.mem_of_getElem? (i := 716) (by decide +kernel)
def y_mo_readPort : MethodName := ⟨"TideTableModel", "readPort", "(I)I"⟩
theorem mw_mo_readPort : tt_Mw y_mo_readPort prog_7_method_15_code 4 (some .int) 1 := ⟨List.mem_of_getElem? (i := 709) (by decide +kernel), List.mem_of_getElem? (i := 48) (by decide +kernel), by decide, by decide, by decide⟩
theorem mi_mo_readPort : Cond.instanceMethod y_mo_readPort ∈ tt_good := List.mem_of_getElem? (i := 708) (by decide +kernel)
theorem mz_mo_readPort : Cond.selects "TideTableModel" y_mo_readPort y_mo_readPort ∈ tt_good := List.mem_of_getElem? (i := 11) (by decide +kernel)
theorem ml_mo_122 : Cond.methodLink "TideTableModel" 122 y_mo_kindBy ∈ tt_good := List.mem_of_getElem? (i := 713) (by decide +kernel)
theorem ml_mo_125 : Cond.methodLink "TideTableModel" 125 y_mo_readWave ∈ tt_good := List.mem_of_getElem? (i := 722) (by decide +kernel)
theorem fp_5_17 : tt_FP 5 17 .int := ⟨_, _, _, t_Mo, rfl, t_Mo_ok, n_Mo, rfl, by decide +kernel⟩
def y_mo_read : MethodName := ⟨"TideTableModel", "read", "()I"⟩
theorem mw_mo_read : tt_Mw y_mo_read prog_7_method_16_code 2 (some .int) 0 := ⟨List.mem_of_getElem? (i := 706) (by decide +kernel), List.mem_of_getElem? (i := 48) (by decide +kernel), by decide, by decide, by decide⟩
theorem mi_mo_read : Cond.instanceMethod y_mo_read ∈ tt_good := List.mem_of_getElem? (i := 705) (by decide +kernel)
theorem mz_mo_read : Cond.selects "TideTableModel" y_mo_read y_mo_read ∈ tt_good := List.mem_of_getElem? (i := 10) (by decide +kernel)
theorem fl_mo_128 : tt_FL "TideTableModel" 128 5 15 := ⟨_, _, _, rfl, by decide, rfl, List.mem_of_getElem? (i := 586) (by decide +kernel), rfl, i_Mo⟩
theorem fp_5_15 : tt_FP 5 15 .boolean := ⟨_, _, _, t_Mo, rfl, t_Mo_ok, n_Mo, rfl, by decide +kernel⟩
theorem ml_mo_131 : Cond.methodLink "TideTableModel" 131 y_mo_readPort ∈ tt_good := List.mem_of_getElem? (i := 707) (by decide +kernel)
def y_mo_fault : MethodName := ⟨"TideTableModel", "fault", "()I"⟩
theorem mw_mo_fault : tt_Mw y_mo_fault prog_7_method_17_code 1 (some .int) 0 := ⟨List.mem_of_getElem? (i := 703) (by decide +kernel), List.mem_of_getElem? (i := 48) (by decide +kernel), by decide, by decide, by decide⟩
theorem mi_mo_fault : Cond.instanceMethod y_mo_fault ∈ tt_good := List.mem_of_getElem? (i := 701) (by decide +kernel)
theorem mz_mo_fault : Cond.selects "TideTableModel" y_mo_fault y_mo_fault ∈ tt_good := List.mem_of_getElem? (i := 702) (by decide +kernel)
theorem ml_mo_134 : Cond.methodLink "TideTableModel" 134 y_mo_read ∈ tt_good := List.mem_of_getElem? (i := 704) (by decide +kernel)
def y_mo_ports : MethodName := ⟨"TideTableModel", "ports", "()I"⟩
theorem mw_mo_ports : tt_Mw y_mo_ports prog_7_method_18_code 2 (some .int) 0 := ⟨List.mem_of_getElem? (i := 728) (by decide +kernel), List.mem_of_getElem? (i := 48) (by decide +kernel), by decide, by decide, by decide⟩
theorem mi_mo_ports : Cond.instanceMethod y_mo_ports ∈ tt_good := List.mem_of_getElem? (i := 726) (by decide +kernel)
theorem mz_mo_ports : Cond.selects "TideTableModel" y_mo_ports y_mo_ports ∈ tt_good := List.mem_of_getElem? (i := 727) (by decide +kernel)
theorem fl_mo_138 : tt_FL "TideTableModel" 138 5 1 := ⟨_, _, _, rfl, by decide, rfl, List.mem_of_getElem? (i := 572) (by decide +kernel), rfl, i_Mo⟩
theorem fp_5_1 : tt_FP 5 1 .int := ⟨_, _, _, t_Mo, rfl, t_Mo_ok, n_Mo, rfl, by decide +kernel⟩
theorem fl_mo_141 : tt_FL "TideTableModel" 141 5 0 := ⟨_, _, _, rfl, by decide, rfl, List.mem_of_getElem? (i := 571) (by decide +kernel), rfl, i_Mo⟩
theorem fp_5_0 : tt_FP 5 0 .int := ⟨_, _, _, t_Mo, rfl, t_Mo_ok, n_Mo, rfl, by decide +kernel⟩
theorem fl_mo_144 : tt_FL "TideTableModel" 144 5 9 := ⟨_, _, _, rfl, by decide, rfl, List.mem_of_getElem? (i := 580) (by decide +kernel), rfl, i_Mo⟩
theorem fp_5_9 : tt_FP 5 9 .int := ⟨_, _, _, t_Mo, rfl, t_Mo_ok, n_Mo, rfl, by decide +kernel⟩
def y_mo_isPort : MethodName := ⟨"TideTableModel", "isPort", "(I)Z"⟩
theorem mw_mo_isPort : tt_Mw y_mo_isPort prog_7_method_19_code 2 (some .boolean) 1 := ⟨List.mem_of_getElem? (i := 735) (by decide +kernel), List.mem_of_getElem? (i := 48) (by decide +kernel), by decide, by decide, by decide⟩
theorem mi_mo_isPort : Cond.instanceMethod y_mo_isPort ∈ tt_good := List.mem_of_getElem? (i := 734) (by decide +kernel)
theorem mz_mo_isPort : Cond.selects "TideTableModel" y_mo_isPort y_mo_isPort ∈ tt_good := List.mem_of_getElem? (i := 16) (by decide +kernel)
def y_mo_isWave : MethodName := ⟨"TideTableModel", "isWave", "(II)Z"⟩
theorem mw_mo_isWave : tt_Mw y_mo_isWave prog_7_method_20_code 3 (some .boolean) 2 := ⟨List.mem_of_getElem? (i := 761) (by decide +kernel), List.mem_of_getElem? (i := 48) (by decide +kernel), by decide, by decide, by decide⟩
theorem mi_mo_isWave : Cond.instanceMethod y_mo_isWave ∈ tt_good := List.mem_of_getElem? (i := 760) (by decide +kernel)
theorem mz_mo_isWave : Cond.selects "TideTableModel" y_mo_isWave y_mo_isWave ∈ tt_good := List.mem_of_getElem? (i := 20) (by decide +kernel)
theorem ml_mo_147 : Cond.methodLink "TideTableModel" 147 y_mo_isPort ∈ tt_good := List.mem_of_getElem? (i := 733) (by decide +kernel)
def y_mo_isNumber : MethodName := ⟨"TideTableModel", "isNumber", "(I)Z"⟩
theorem mw_mo_isNumber : tt_Mw y_mo_isNumber prog_7_method_21_code 1 (some .boolean) 1 := ⟨List.mem_of_getElem? (i := 872) (by decide +kernel), List.mem_of_getElem? (i := 48) (by decide +kernel), by decide, by decide, by decide⟩
theorem ms_mo_isNumber : Cond.static y_mo_isNumber ∈ tt_good := List.mem_of_getElem? (i := 871) (by decide +kernel)
def y_mo_portNow : MethodName := ⟨"TideTableModel", "portNow", "(II)I"⟩
theorem mw_mo_portNow : tt_Mw y_mo_portNow prog_7_method_22_code 3 (some .int) 2 := ⟨List.mem_of_getElem? (i := 738) (by decide +kernel), List.mem_of_getElem? (i := 48) (by decide +kernel), by decide, by decide, by decide⟩
theorem mi_mo_portNow : Cond.instanceMethod y_mo_portNow ∈ tt_good := List.mem_of_getElem? (i := 737) (by decide +kernel)
theorem mz_mo_portNow : Cond.selects "TideTableModel" y_mo_portNow y_mo_portNow ∈ tt_good := List.mem_of_getElem? (i := 17) (by decide +kernel)
def y_mo_sortsOf : MethodName := ⟨"TideTableModel", "sortsOf", "(I)I"⟩
theorem mw_mo_sortsOf : tt_Mw y_mo_sortsOf prog_7_method_64_code 6 (some .int) 1 := ⟨List.mem_of_getElem? (i := 741) (by decide +kernel), List.mem_of_getElem? (i := 48) (by decide +kernel), by decide, by decide, by decide⟩
theorem mi_mo_sortsOf : Cond.instanceMethod y_mo_sortsOf ∈ tt_good := List.mem_of_getElem? (i := 740) (by decide +kernel)
theorem mz_mo_sortsOf : Cond.selects "TideTableModel" y_mo_sortsOf y_mo_sortsOf ∈ tt_good := List.mem_of_getElem? (i := 18) (by decide +kernel)
theorem ml_mo_150 : Cond.methodLink "TideTableModel" 150 y_mo_sortsOf ∈ tt_good := List.mem_of_getElem? (i := 739) (by decide +kernel)
def y_mo_askOf : MethodName := ⟨"TideTableModel", "askOf", "(I)I"⟩
theorem mw_mo_askOf : tt_Mw y_mo_askOf prog_7_method_65_code 9 (some .int) 1 := ⟨List.mem_of_getElem? (i := 747) (by decide +kernel), List.mem_of_getElem? (i := 48) (by decide +kernel), by decide, by decide, by decide⟩
theorem mi_mo_askOf : Cond.instanceMethod y_mo_askOf ∈ tt_good := List.mem_of_getElem? (i := 746) (by decide +kernel)
theorem mz_mo_askOf : Cond.selects "TideTableModel" y_mo_askOf y_mo_askOf ∈ tt_good := List.mem_of_getElem? (i := 19) (by decide +kernel)
theorem ml_mo_153 : Cond.methodLink "TideTableModel" 153 y_mo_askOf ∈ tt_good := List.mem_of_getElem? (i := 745) (by decide +kernel)
def y_mo_port : MethodName := ⟨"TideTableModel", "port", "(II)I"⟩
theorem mw_mo_port : tt_Mw y_mo_port prog_7_method_23_code 3 (some .int) 2 := ⟨List.mem_of_getElem? (i := 732) (by decide +kernel), List.mem_of_getElem? (i := 48) (by decide +kernel), by decide, by decide, by decide⟩
theorem mi_mo_port : Cond.instanceMethod y_mo_port ∈ tt_good := List.mem_of_getElem? (i := 730) (by decide +kernel)
theorem mz_mo_port : Cond.selects "TideTableModel" y_mo_port y_mo_port ∈ tt_good := List.mem_of_getElem? (i := 731) (by decide +kernel)
theorem ml_mo_156 : Cond.methodLink "TideTableModel" 156 y_mo_portNow ∈ tt_good := List.mem_of_getElem? (i := 736) (by decide +kernel)
def y_mo_waveNow : MethodName := ⟨"TideTableModel", "waveNow", "(III)I"⟩
theorem mw_mo_waveNow : tt_Mw y_mo_waveNow prog_7_method_24_code 4 (some .int) 3 := ⟨List.mem_of_getElem? (i := 764) (by decide +kernel), List.mem_of_getElem? (i := 48) (by decide +kernel), by decide, by decide, by decide⟩
theorem mi_mo_waveNow : Cond.instanceMethod y_mo_waveNow ∈ tt_good := List.mem_of_getElem? (i := 763) (by decide +kernel)
theorem mz_mo_waveNow : Cond.selects "TideTableModel" y_mo_waveNow y_mo_waveNow ∈ tt_good := List.mem_of_getElem? (i := 21) (by decide +kernel)
def y_mo_wave : MethodName := ⟨"TideTableModel", "wave", "(III)I"⟩
theorem mw_mo_wave : tt_Mw y_mo_wave prog_7_method_25_code 4 (some .int) 3 := ⟨List.mem_of_getElem? (i := 758) (by decide +kernel), List.mem_of_getElem? (i := 48) (by decide +kernel), by decide, by decide, by decide⟩
theorem mi_mo_wave : Cond.instanceMethod y_mo_wave ∈ tt_good := List.mem_of_getElem? (i := 756) (by decide +kernel)
theorem mz_mo_wave : Cond.selects "TideTableModel" y_mo_wave y_mo_wave ∈ tt_good := List.mem_of_getElem? (i := 757) (by decide +kernel)
theorem ml_mo_160 : Cond.methodLink "TideTableModel" 160 y_mo_isWave ∈ tt_good := List.mem_of_getElem? (i := 759) (by decide +kernel)
theorem ml_mo_164 : Cond.methodLink "TideTableModel" 164 y_mo_waveNow ∈ tt_good := List.mem_of_getElem? (i := 762) (by decide +kernel)
def y_mo_as : MethodName := ⟨"TideTableModel", "as", "(II)I"⟩
theorem mw_mo_as : tt_Mw y_mo_as prog_7_method_26_code 4 (some .int) 2 := ⟨List.mem_of_getElem? (i := 768) (by decide +kernel), List.mem_of_getElem? (i := 48) (by decide +kernel), by decide, by decide, by decide⟩
theorem mi_mo_as : Cond.instanceMethod y_mo_as ∈ tt_good := List.mem_of_getElem? (i := 766) (by decide +kernel)
theorem mz_mo_as : Cond.selects "TideTableModel" y_mo_as y_mo_as ∈ tt_good := List.mem_of_getElem? (i := 767) (by decide +kernel)
def y_mo_round : MethodName := ⟨"TideTableModel", "round", "(I)I"⟩
theorem mw_mo_round : tt_Mw y_mo_round prog_7_method_27_code 2 (some .int) 1 := ⟨List.mem_of_getElem? (i := 772) (by decide +kernel), List.mem_of_getElem? (i := 48) (by decide +kernel), by decide, by decide, by decide⟩
theorem mi_mo_round : Cond.instanceMethod y_mo_round ∈ tt_good := List.mem_of_getElem? (i := 770) (by decide +kernel)
theorem mz_mo_round : Cond.selects "TideTableModel" y_mo_round y_mo_round ∈ tt_good := List.mem_of_getElem? (i := 771) (by decide +kernel)
def y_mo_turnAt : MethodName := ⟨"TideTableModel", "turnAt", "(I)I"⟩
theorem mw_mo_turnAt : tt_Mw y_mo_turnAt prog_7_method_28_code 4 (some .int) 1 := ⟨List.mem_of_getElem? (i := 785) (by decide +kernel), List.mem_of_getElem? (i := 48) (by decide +kernel), by decide, by decide, by decide⟩
theorem mi_mo_turnAt : Cond.instanceMethod y_mo_turnAt ∈ tt_good := List.mem_of_getElem? (i := 784) (by decide +kernel)
theorem mz_mo_turnAt : Cond.selects "TideTableModel" y_mo_turnAt y_mo_turnAt ∈ tt_good := List.mem_of_getElem? (i := 23) (by decide +kernel)
theorem ml_mo_167 : Cond.methodLink "TideTableModel" 167 y_mo_by ∈ tt_good := List.mem_of_getElem? (i := 786) (by decide +kernel)
def y_mo_sumAt : MethodName := ⟨"TideTableModel", "sumAt", "(II)I"⟩
theorem mw_mo_sumAt : tt_Mw y_mo_sumAt prog_7_method_29_code 7 (some .int) 2 := ⟨List.mem_of_getElem? (i := 782) (by decide +kernel), List.mem_of_getElem? (i := 48) (by decide +kernel), by decide, by decide, by decide⟩
theorem mi_mo_sumAt : Cond.instanceMethod y_mo_sumAt ∈ tt_good := List.mem_of_getElem? (i := 781) (by decide +kernel)
theorem mz_mo_sumAt : Cond.selects "TideTableModel" y_mo_sumAt y_mo_sumAt ∈ tt_good := List.mem_of_getElem? (i := 22) (by decide +kernel)
theorem ml_mo_170 : Cond.methodLink "TideTableModel" 170 y_mo_turnAt ∈ tt_good := List.mem_of_getElem? (i := 783) (by decide +kernel)
def y_mo_silled : MethodName := ⟨"TideTableModel", "silled", "(II)I"⟩
theorem mw_mo_silled : tt_Mw y_mo_silled prog_7_method_30_code 4 (some .int) 2 := ⟨List.mem_of_getElem? (i := 801) (by decide +kernel), List.mem_of_getElem? (i := 48) (by decide +kernel), by decide, by decide, by decide⟩
theorem mi_mo_silled : Cond.instanceMethod y_mo_silled ∈ tt_good := List.mem_of_getElem? (i := 800) (by decide +kernel)
theorem mz_mo_silled : Cond.selects "TideTableModel" y_mo_silled y_mo_silled ∈ tt_good := List.mem_of_getElem? (i := 26) (by decide +kernel)
theorem ml_mo_173 : Cond.methodLink "TideTableModel" 173 y_mo_sumAt ∈ tt_good := List.mem_of_getElem? (i := 780) (by decide +kernel)
def y_mo_ownHeight : MethodName := ⟨"TideTableModel", "ownHeight", "(II)I"⟩
theorem mw_mo_ownHeight : tt_Mw y_mo_ownHeight prog_7_method_31_code 6 (some .int) 2 := ⟨List.mem_of_getElem? (i := 798) (by decide +kernel), List.mem_of_getElem? (i := 48) (by decide +kernel), by decide, by decide, by decide⟩
theorem mi_mo_ownHeight : Cond.instanceMethod y_mo_ownHeight ∈ tt_good := List.mem_of_getElem? (i := 797) (by decide +kernel)
theorem mz_mo_ownHeight : Cond.selects "TideTableModel" y_mo_ownHeight y_mo_ownHeight ∈ tt_good := List.mem_of_getElem? (i := 25) (by decide +kernel)
theorem ml_mo_176 : Cond.methodLink "TideTableModel" 176 y_mo_silled ∈ tt_good := List.mem_of_getElem? (i := 799) (by decide +kernel)
def y_mo_heightAt : MethodName := ⟨"TideTableModel", "heightAt", "(II)I"⟩
theorem mw_mo_heightAt : tt_Mw y_mo_heightAt prog_7_method_32_code 3 (some .int) 2 := ⟨List.mem_of_getElem? (i := 795) (by decide +kernel), List.mem_of_getElem? (i := 48) (by decide +kernel), by decide, by decide, by decide⟩
theorem mi_mo_heightAt : Cond.instanceMethod y_mo_heightAt ∈ tt_good := List.mem_of_getElem? (i := 794) (by decide +kernel)
theorem mz_mo_heightAt : Cond.selects "TideTableModel" y_mo_heightAt y_mo_heightAt ∈ tt_good := List.mem_of_getElem? (i := 24) (by decide +kernel)
theorem ml_mo_179 : Cond.methodLink "TideTableModel" 179 y_mo_ownHeight ∈ tt_good := List.mem_of_getElem? (i := 796) (by decide +kernel)
def y_mo_isTick : MethodName := ⟨"TideTableModel", "isTick", "(I)Z"⟩
theorem mw_mo_isTick : tt_Mw y_mo_isTick prog_7_method_33_code 1 (some .boolean) 1 := ⟨List.mem_of_getElem? (i := 779) (by decide +kernel), List.mem_of_getElem? (i := 48) (by decide +kernel), by decide, by decide, by decide⟩
theorem ms_mo_isTick : Cond.static y_mo_isTick ∈ tt_good := List.mem_of_getElem? (i := 778) (by decide +kernel)
