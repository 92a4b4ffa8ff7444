def y_mo_sum : MethodName := ⟨"TideTableModel", "sum", "(II)I"⟩
theorem mw_mo_sum : tt_Mw y_mo_sum prog_7_method_34_code 3 (some .int) 2 := ⟨List.mem_of_getElem? (i := 776) (by decide +kernel), List.mem_of_getElem? (i := 48) (by decide +kernel), by decide, by decide, by decide⟩
theorem mi_mo_sum : Cond.instanceMethod y_mo_sum ∈ tt_good := List.mem_of_getElem? (i := 774) (by decide +kernel)
theorem mz_mo_sum : Cond.selects "TideTableModel" y_mo_sum y_mo_sum ∈ tt_good := List.mem_of_getElem? (i := 775) (by decide +kernel)
theorem ml_mo_182 : Cond.methodLink "TideTableModel" 182 y_mo_isTick ∈ tt_good := List.mem_of_getElem? (i := 777) (by decide +kernel)
def y_mo_height : MethodName := ⟨"TideTableModel", "height", "(II)I"⟩
theorem mw_mo_height : tt_Mw y_mo_height prog_7_method_35_code 3 (some .int) 2 := ⟨List.mem_of_getElem? (i := 792) (by decide +kernel), List.mem_of_getElem? (i := 48) (by decide +kernel), by decide, by decide, by decide⟩
theorem mi_mo_height : Cond.instanceMethod y_mo_height ∈ tt_good := List.mem_of_getElem? (i := 790) (by decide +kernel)
theorem mz_mo_height : Cond.selects "TideTableModel" y_mo_height y_mo_height ∈ tt_good := List.mem_of_getElem? (i := 791) (by decide +kernel)
theorem ml_mo_185 : Cond.methodLink "TideTableModel" 185 y_mo_heightAt ∈ tt_good := List.mem_of_getElem? (i := 793) (by decide +kernel)
def y_mo_then : MethodName := ⟨"TideTableModel", "then", "(II)I"⟩
theorem mw_mo_then : tt_Mw y_mo_then prog_7_method_36_code 6 (some .int) 2 := ⟨List.mem_of_getElem? (i := 817) (by decide +kernel), List.mem_of_getElem? (i := 48) (by decide +kernel), by decide, by decide, by decide⟩
theorem mi_mo_then : Cond.instanceMethod y_mo_then ∈ tt_good := List.mem_of_getElem? (i := 816) (by decide +kernel)
theorem mz_mo_then : Cond.selects "TideTableModel" y_mo_then y_mo_then ∈ tt_good := List.mem_of_getElem? (i := 29) (by decide +kernel)
def y_mo_turnsAt : MethodName := ⟨"TideTableModel", "turnsAt", "(II)I"⟩
theorem mw_mo_turnsAt : tt_Mw y_mo_turnsAt prog_7_method_37_code 5 (some .int) 2 := ⟨List.mem_of_getElem? (i := 814) (by decide +kernel), List.mem_of_getElem? (i := 48) (by decide +kernel), by decide, by decide, by decide⟩
theorem mi_mo_turnsAt : Cond.instanceMethod y_mo_turnsAt ∈ tt_good := List.mem_of_getElem? (i := 813) (by decide +kernel)
theorem mz_mo_turnsAt : Cond.selects "TideTableModel" y_mo_turnsAt y_mo_turnsAt ∈ tt_good := List.mem_of_getElem? (i := 28) (by decide +kernel)
theorem ml_mo_188 : Cond.methodLink "TideTableModel" 188 y_mo_then ∈ tt_good := List.mem_of_getElem? (i := 815) (by decide +kernel)
def y_mo_isDay : MethodName := ⟨"TideTableModel", "isDay", "(I)Z"⟩
theorem mw_mo_isDay : tt_Mw y_mo_isDay prog_7_method_38_code 1 (some .boolean) 1 := ⟨List.mem_of_getElem? (i := 808) (by decide +kernel), List.mem_of_getElem? (i := 48) (by decide +kernel), by decide, by decide, by decide⟩
theorem ms_mo_isDay : Cond.static y_mo_isDay ∈ tt_good := List.mem_of_getElem? (i := 807) (by decide +kernel)
def y_mo_isNeed : MethodName := ⟨"TideTableModel", "isNeed", "(I)Z"⟩
theorem mw_mo_isNeed : tt_Mw y_mo_isNeed prog_7_method_39_code 1 (some .boolean) 1 := ⟨List.mem_of_getElem? (i := 824) (by decide +kernel), List.mem_of_getElem? (i := 48) (by decide +kernel), by decide, by decide, by decide⟩
theorem ms_mo_isNeed : Cond.static y_mo_isNeed ∈ tt_good := List.mem_of_getElem? (i := 823) (by decide +kernel)
def y_mo_tideNow : MethodName := ⟨"TideTableModel", "tideNow", "(IIII)I"⟩
theorem mw_mo_tideNow : tt_Mw y_mo_tideNow prog_7_method_40_code 8 (some .int) 4 := ⟨List.mem_of_getElem? (i := 811) (by decide +kernel), List.mem_of_getElem? (i := 48) (by decide +kernel), by decide, by decide, by decide⟩
theorem mi_mo_tideNow : Cond.instanceMethod y_mo_tideNow ∈ tt_good := List.mem_of_getElem? (i := 810) (by decide +kernel)
theorem mz_mo_tideNow : Cond.selects "TideTableModel" y_mo_tideNow y_mo_tideNow ∈ tt_good := List.mem_of_getElem? (i := 27) (by decide +kernel)
theorem ml_mo_191 : Cond.methodLink "TideTableModel" 191 y_mo_turnsAt ∈ tt_good := List.mem_of_getElem? (i := 812) (by decide +kernel)
def y_mo_tide : MethodName := ⟨"TideTableModel", "tide", "(IIII)I"⟩
theorem mw_mo_tide : tt_Mw y_mo_tide prog_7_method_41_code 5 (some .int) 4 := ⟨List.mem_of_getElem? (i := 805) (by decide +kernel), List.mem_of_getElem? (i := 48) (by decide +kernel), by decide, by decide, by decide⟩
theorem mi_mo_tide : Cond.instanceMethod y_mo_tide ∈ tt_good := List.mem_of_getElem? (i := 803) (by decide +kernel)
theorem mz_mo_tide : Cond.selects "TideTableModel" y_mo_tide y_mo_tide ∈ tt_good := List.mem_of_getElem? (i := 804) (by decide +kernel)
theorem ml_mo_194 : Cond.methodLink "TideTableModel" 194 y_mo_isDay ∈ tt_good := List.mem_of_getElem? (i := 806) (by decide +kernel)
theorem ml_mo_197 : Cond.methodLink "TideTableModel" 197 y_mo_tideNow ∈ tt_good := List.mem_of_getElem? (i := 809) (by decide +kernel)
def y_mo_gateNow : MethodName := ⟨"TideTableModel", "gateNow", "(IIIII)I"⟩
theorem mw_mo_gateNow : tt_Mw y_mo_gateNow prog_7_method_42_code 12 (some .int) 5 := ⟨List.mem_of_getElem? (i := 827) (by decide +kernel), List.mem_of_getElem? (i := 48) (by decide +kernel), by decide, by decide, by decide⟩
theorem mi_mo_gateNow : Cond.instanceMethod y_mo_gateNow ∈ tt_good := List.mem_of_getElem? (i := 826) (by decide +kernel)
theorem mz_mo_gateNow : Cond.selects "TideTableModel" y_mo_gateNow y_mo_gateNow ∈ tt_good := List.mem_of_getElem? (i := 30) (by decide +kernel)
def y_mo_gate : MethodName := ⟨"TideTableModel", "gate", "(IIIII)I"⟩
theorem mw_mo_gate : tt_Mw y_mo_gate prog_7_method_43_code 6 (some .int) 5 := ⟨List.mem_of_getElem? (i := 821) (by decide +kernel), List.mem_of_getElem? (i := 48) (by decide +kernel), by decide, by decide, by decide⟩
theorem mi_mo_gate : Cond.instanceMethod y_mo_gate ∈ tt_good := List.mem_of_getElem? (i := 819) (by decide +kernel)
theorem mz_mo_gate : Cond.selects "TideTableModel" y_mo_gate y_mo_gate ∈ tt_good := List.mem_of_getElem? (i := 820) (by decide +kernel)
theorem ml_mo_201 : Cond.methodLink "TideTableModel" 201 y_mo_isNeed ∈ tt_good := List.mem_of_getElem? (i := 822) (by decide +kernel)
theorem ml_mo_204 : Cond.methodLink "TideTableModel" 204 y_mo_gateNow ∈ tt_good := List.mem_of_getElem? (i := 825) (by decide +kernel)
def y_mo_dryNow : MethodName := ⟨"TideTableModel", "dryNow", "(III)I"⟩
theorem mw_mo_dryNow : tt_Mw y_mo_dryNow prog_7_method_44_code 6 (some .int) 3 := ⟨List.mem_of_getElem? (i := 834) (by decide +kernel), List.mem_of_getElem? (i := 48) (by decide +kernel), by decide, by decide, by decide⟩
theorem mi_mo_dryNow : Cond.instanceMethod y_mo_dryNow ∈ tt_good := List.mem_of_getElem? (i := 833) (by decide +kernel)
theorem mz_mo_dryNow : Cond.selects "TideTableModel" y_mo_dryNow y_mo_dryNow ∈ tt_good := List.mem_of_getElem? (i := 31) (by decide +kernel)
def y_mo_dry : MethodName := ⟨"TideTableModel", "dry", "(III)I"⟩
theorem mw_mo_dry : tt_Mw y_mo_dry prog_7_method_45_code 4 (some .int) 3 := ⟨List.mem_of_getElem? (i := 831) (by decide +kernel), List.mem_of_getElem? (i := 48) (by decide +kernel), by decide, by decide, by decide⟩
theorem mi_mo_dry : Cond.instanceMethod y_mo_dry ∈ tt_good := List.mem_of_getElem? (i := 829) (by decide +kernel)
theorem mz_mo_dry : Cond.selects "TideTableModel" y_mo_dry y_mo_dry ∈ tt_good := List.mem_of_getElem? (i := 830) (by decide +kernel)
theorem ml_mo_208 : Cond.methodLink "TideTableModel" 208 y_mo_dryNow ∈ tt_good := List.mem_of_getElem? (i := 832) (by decide +kernel)
def y_mo_streamAt : MethodName := ⟨"TideTableModel", "streamAt", "(III)I"⟩
theorem mw_mo_streamAt : tt_Mw y_mo_streamAt prog_7_method_46_code 4 (some .int) 3 := ⟨List.mem_of_getElem? (i := 841) (by decide +kernel), List.mem_of_getElem? (i := 48) (by decide +kernel), by decide, by decide, by decide⟩
theorem mi_mo_streamAt : Cond.instanceMethod y_mo_streamAt ∈ tt_good := List.mem_of_getElem? (i := 840) (by decide +kernel)
theorem mz_mo_streamAt : Cond.selects "TideTableModel" y_mo_streamAt y_mo_streamAt ∈ tt_good := List.mem_of_getElem? (i := 32) (by decide +kernel)
def y_mo_stream : MethodName := ⟨"TideTableModel", "stream", "(III)I"⟩
theorem mw_mo_stream : tt_Mw y_mo_stream prog_7_method_47_code 4 (some .int) 3 := ⟨List.mem_of_getElem? (i := 838) (by decide +kernel), List.mem_of_getElem? (i := 48) (by decide +kernel), by decide, by decide, by decide⟩
theorem mi_mo_stream : Cond.instanceMethod y_mo_stream ∈ tt_good := List.mem_of_getElem? (i := 836) (by decide +kernel)
theorem mz_mo_stream : Cond.selects "TideTableModel" y_mo_stream y_mo_stream ∈ tt_good := List.mem_of_getElem? (i := 837) (by decide +kernel)
theorem ml_mo_211 : Cond.methodLink "TideTableModel" 211 y_mo_streamAt ∈ tt_good := List.mem_of_getElem? (i := 839) (by decide +kernel)
def y_mo_slackNow : MethodName := ⟨"TideTableModel", "slackNow", "(III)I"⟩
theorem mw_mo_slackNow : tt_Mw y_mo_slackNow prog_7_method_48_code 7 (some .int) 3 := ⟨List.mem_of_getElem? (i := 848) (by decide +kernel), List.mem_of_getElem? (i := 48) (by decide +kernel), by decide, by decide, by decide⟩
theorem mi_mo_slackNow : Cond.instanceMethod y_mo_slackNow ∈ tt_good := List.mem_of_getElem? (i := 847) (by decide +kernel)
theorem mz_mo_slackNow : Cond.selects "TideTableModel" y_mo_slackNow y_mo_slackNow ∈ tt_good := List.mem_of_getElem? (i := 33) (by decide +kernel)
def y_mo_slack : MethodName := ⟨"TideTableModel", "slack", "(III)I"⟩
theorem mw_mo_slack : tt_Mw y_mo_slack prog_7_method_49_code 4 (some .int) 3 := ⟨List.mem_of_getElem? (i := 845) (by decide +kernel), List.mem_of_getElem? (i := 48) (by decide +kernel), by decide, by decide, by decide⟩
theorem mi_mo_slack : Cond.instanceMethod y_mo_slack ∈ tt_good := List.mem_of_getElem? (i := 843) (by decide +kernel)
theorem mz_mo_slack : Cond.selects "TideTableModel" y_mo_slack y_mo_slack ∈ tt_good := List.mem_of_getElem? (i := 844) (by decide +kernel)
theorem ml_mo_214 : Cond.methodLink "TideTableModel" 214 y_mo_slackNow ∈ tt_good := List.mem_of_getElem? (i := 846) (by decide +kernel)
def y_mo_tripNow : MethodName := ⟨"TideTableModel", "tripNow", "(IIII)I"⟩
theorem mw_mo_tripNow : tt_Mw y_mo_tripNow prog_7_method_50_code 8 (some .int) 4 := ⟨List.mem_of_getElem? (i := 858) (by decide +kernel), List.mem_of_getElem? (i := 48) (by decide +kernel), by decide, by decide, by decide⟩
theorem mi_mo_tripNow : Cond.instanceMethod y_mo_tripNow ∈ tt_good := List.mem_of_getElem? (i := 857) (by decide +kernel)
theorem mz_mo_tripNow : Cond.selects "TideTableModel" y_mo_tripNow y_mo_tripNow ∈ tt_good := List.mem_of_getElem? (i := 34) (by decide +kernel)
def y_mo_isPace : MethodName := ⟨"TideTableModel", "isPace", "(I)Z"⟩
theorem mw_mo_isPace : tt_Mw y_mo_isPace prog_7_method_51_code 1 (some .boolean) 1 := ⟨List.mem_of_getElem? (i := 855) (by decide +kernel), List.mem_of_getElem? (i := 48) (by decide +kernel), by decide, by decide, by decide⟩
theorem ms_mo_isPace : Cond.static y_mo_isPace ∈ tt_good := List.mem_of_getElem? (i := 854) (by decide +kernel)
def y_mo_trip : MethodName := ⟨"TideTableModel", "trip", "(IIII)I"⟩
theorem mw_mo_trip : tt_Mw y_mo_trip prog_7_method_52_code 5 (some .int) 4 := ⟨List.mem_of_getElem? (i := 852) (by decide +kernel), List.mem_of_getElem? (i := 48) (by decide +kernel), by decide, by decide, by decide⟩
theorem mi_mo_trip : Cond.instanceMethod y_mo_trip ∈ tt_good := List.mem_of_getElem? (i := 850) (by decide +kernel)
theorem mz_mo_trip : Cond.selects "TideTableModel" y_mo_trip y_mo_trip ∈ tt_good := List.mem_of_getElem? (i := 851) (by decide +kernel)
theorem ml_mo_217 : Cond.methodLink "TideTableModel" 217 y_mo_isPace ∈ tt_good := List.mem_of_getElem? (i := 853) (by decide +kernel)
theorem ml_mo_220 : Cond.methodLink "TideTableModel" 220 y_mo_tripNow ∈ tt_good := List.mem_of_getElem? (i := 856) (by decide +kernel)
def y_mo_leaveNow : MethodName := ⟨"TideTableModel", "leaveNow", "(IIIII)I"⟩
theorem mw_mo_leaveNow : tt_Mw y_mo_leaveNow prog_7_method_53_code 8 (some .int) 5 := ⟨List.mem_of_getElem? (i := 865) (by decide +kernel), List.mem_of_getElem? (i := 48) (by decide +kernel), by decide, by decide, by decide⟩
theorem mi_mo_leaveNow : Cond.instanceMethod y_mo_leaveNow ∈ tt_good := List.mem_of_getElem? (i := 864) (by decide +kernel)
theorem mz_mo_leaveNow : Cond.selects "TideTableModel" y_mo_leaveNow y_mo_leaveNow ∈ tt_good := List.mem_of_getElem? (i := 35) (by decide +kernel)
def y_mo_leave : MethodName := ⟨"TideTableModel", "leave", "(IIIII)I"⟩
theorem mw_mo_leave : tt_Mw y_mo_leave prog_7_method_54_code 6 (some .int) 5 := ⟨List.mem_of_getElem? (i := 862) (by decide +kernel), List.mem_of_getElem? (i := 48) (by decide +kernel), by decide, by decide, by decide⟩
theorem mi_mo_leave : Cond.instanceMethod y_mo_leave ∈ tt_good := List.mem_of_getElem? (i := 860) (by decide +kernel)
theorem mz_mo_leave : Cond.selects "TideTableModel" y_mo_leave y_mo_leave ∈ tt_good := List.mem_of_getElem? (i := 861) (by decide +kernel)
theorem ml_mo_223 : Cond.methodLink "TideTableModel" 223 y_mo_leaveNow ∈ tt_good := List.mem_of_getElem? (i := 863) (by decide +kernel)
def y_mo_mean : MethodName := ⟨"TideTableModel", "mean", "(II)I"⟩
theorem mw_mo_mean : tt_Mw y_mo_mean prog_7_method_55_code 4 (some .int) 2 := ⟨List.mem_of_getElem? (i := 869) (by decide +kernel), List.mem_of_getElem? (i := 48) (by decide +kernel), by decide, by decide, by decide⟩
theorem mi_mo_mean : Cond.instanceMethod y_mo_mean ∈ tt_good := List.mem_of_getElem? (i := 867) (by decide +kernel)
theorem mz_mo_mean : Cond.selects "TideTableModel" y_mo_mean y_mo_mean ∈ tt_good := List.mem_of_getElem? (i := 868) (by decide +kernel)
theorem ml_mo_226 : Cond.methodLink "TideTableModel" 226 y_mo_isNumber ∈ tt_good := List.mem_of_getElem? (i := 870) (by decide +kernel)
def y_mo_mark : MethodName := ⟨"TideTableModel", "mark", "(II)I"⟩
theorem mw_mo_mark : tt_Mw y_mo_mark prog_7_method_56_code 4 (some .int) 2 := ⟨List.mem_of_getElem? (i := 876) (by decide +kernel), List.mem_of_getElem? (i := 48) (by decide +kernel), by decide, by decide, by decide⟩
theorem mi_mo_mark : Cond.instanceMethod y_mo_mark ∈ tt_good := List.mem_of_getElem? (i := 874) (by decide +kernel)
theorem mz_mo_mark : Cond.selects "TideTableModel" y_mo_mark y_mo_mark ∈ tt_good := List.mem_of_getElem? (i := 875) (by decide +kernel)
def y_mo_ratio : MethodName := ⟨"TideTableModel", "ratio", "(II)I"⟩
theorem mw_mo_ratio : tt_Mw y_mo_ratio prog_7_method_57_code 4 (some .int) 2 := ⟨List.mem_of_getElem? (i := 880) (by decide +kernel), List.mem_of_getElem? (i := 48) (by decide +kernel), by decide, by decide, by decide⟩
theorem mi_mo_ratio : Cond.instanceMethod y_mo_ratio ∈ tt_good := List.mem_of_getElem? (i := 878) (by decide +kernel)
theorem mz_mo_ratio : Cond.selects "TideTableModel" y_mo_ratio y_mo_ratio ∈ tt_good := List.mem_of_getElem? (i := 879) (by decide +kernel)
def y_mo_add : MethodName := ⟨"TideTableModel", "add", "(IIII)I"⟩
theorem mw_mo_add : tt_Mw y_mo_add prog_7_method_58_code 6 (some .int) 4 := ⟨List.mem_of_getElem? (i := 884) (by decide +kernel), List.mem_of_getElem? (i := 48) (by decide +kernel), by decide, by decide, by decide⟩
theorem mi_mo_add : Cond.instanceMethod y_mo_add ∈ tt_good := List.mem_of_getElem? (i := 882) (by decide +kernel)
theorem mz_mo_add : Cond.selects "TideTableModel" y_mo_add y_mo_add ∈ tt_good := List.mem_of_getElem? (i := 883) (by decide +kernel)
def y_mo_take : MethodName := ⟨"TideTableModel", "take", "(II)I"⟩
theorem mw_mo_take : tt_Mw y_mo_take prog_7_method_59_code 4 (some .int) 2 := ⟨List.mem_of_getElem? (i := 888) (by decide +kernel), List.mem_of_getElem? (i := 48) (by decide +kernel), by decide, by decide, by decide⟩
theorem mi_mo_take : Cond.instanceMethod y_mo_take ∈ tt_good := List.mem_of_getElem? (i := 886) (by decide +kernel)
theorem mz_mo_take : Cond.selects "TideTableModel" y_mo_take y_mo_take ∈ tt_good := List.mem_of_getElem? (i := 887) (by decide +kernel)
def y_mo_be : MethodName := ⟨"TideTableModel", "be", "(II)I"⟩
theorem mw_mo_be : tt_Mw y_mo_be prog_7_method_60_code 4 (some .int) 2 := ⟨List.mem_of_getElem? (i := 892) (by decide +kernel), List.mem_of_getElem? (i := 48) (by decide +kernel), by decide, by decide, by decide⟩
theorem mi_mo_be : Cond.instanceMethod y_mo_be ∈ tt_good := List.mem_of_getElem? (i := 890) (by decide +kernel)
theorem mz_mo_be : Cond.selects "TideTableModel" y_mo_be y_mo_be ∈ tt_good := List.mem_of_getElem? (i := 891) (by decide +kernel)
def y_mo_could : MethodName := ⟨"TideTableModel", "could", "(II)Z"⟩
theorem mw_mo_could : tt_Mw y_mo_could prog_7_method_61_code 2 (some .boolean) 2 := ⟨List.mem_of_getElem? (i := 744) (by decide +kernel), List.mem_of_getElem? (i := 48) (by decide +kernel), by decide, by decide, by decide⟩
theorem ms_mo_could : Cond.static y_mo_could ∈ tt_good := List.mem_of_getElem? (i := 743) (by decide +kernel)
def y_mo_see : MethodName := ⟨"TideTableModel", "see", "(IIZ)I"⟩
theorem mw_mo_see : tt_Mw y_mo_see prog_7_method_62_code 4 (some .int) 3 := ⟨List.mem_of_getElem? (i := 896) (by decide +kernel), List.mem_of_getElem? (i := 48) (by decide +kernel), by decide, by decide, by decide⟩
theorem mi_mo_see : Cond.instanceMethod y_mo_see ∈ tt_good := List.mem_of_getElem? (i := 894) (by decide +kernel)
theorem mz_mo_see : Cond.selects "TideTableModel" y_mo_see y_mo_see ∈ tt_good := List.mem_of_getElem? (i := 895) (by decide +kernel)
def y_mo_forget : MethodName := ⟨"TideTableModel", "forget", "()I"⟩
theorem mw_mo_forget : tt_Mw y_mo_forget prog_7_method_63_code 2 (some .int) 0 := ⟨List.mem_of_getElem? (i := 900) (by decide +kernel), List.mem_of_getElem? (i := 48) (by decide +kernel), by decide, by decide, by decide⟩
theorem mi_mo_forget : Cond.instanceMethod y_mo_forget ∈ tt_good := List.mem_of_getElem? (i := 898) (by decide +kernel)
theorem mz_mo_forget : Cond.selects "TideTableModel" y_mo_forget y_mo_forget ∈ tt_good := List.mem_of_getElem? (i := 899) (by decide +kernel)
theorem ml_mo_229 : Cond.methodLink "TideTableModel" 229 y_mo_could ∈ tt_good := List.mem_of_getElem? (i := 742) (by decide +kernel)
theorem k_mo_232 : Cond.constant "TideTableModel" 232 268435456 ∈ tt_good := List.mem_of_getElem? (i := 748) (by decide +kernel)
theorem ml_mo_233 : Cond.methodLink "TideTableModel" 233 y_mo_isIn ∈ tt_good := List.mem_of_getElem? (i := 749) (by decide +kernel)
theorem ml_mo_236 : Cond.methodLink "TideTableModel" 236 y_mo_size ∈ tt_good := List.mem_of_getElem? (i := 752) (by decide +kernel)
def y_mo_draw : MethodName := ⟨"TideTableModel", "draw", "(I)I"⟩
theorem mw_mo_draw : tt_Mw y_mo_draw prog_7_method_66_code 2 (some .int) 1 := ⟨List.mem_of_getElem? (i := 910) (by decide +kernel), List.mem_of_getElem? (i := 48) (by decide +kernel), by decide, by decide, by decide⟩
theorem mi_mo_draw : Cond.instanceMethod y_mo_draw ∈ tt_good := List.mem_of_getElem? (i := 909) (by decide +kernel)
theorem mz_mo_draw : Cond.selects "TideTableModel" y_mo_draw y_mo_draw ∈ tt_good := List.mem_of_getElem? (i := 37) (by decide +kernel)
theorem k_mo_239 : Cond.constantLong "TideTableModel" 239 1103515245 ∈ tt_good := List.mem_of_getElem? (i := 911) (by decide +kernel)
theorem fl_mo_241 : tt_FL "TideTableModel" 241 5 25 := ⟨_, _, _, rfl, by decide, rfl, List.mem_of_getElem? (i := 596) (by decide +kernel), rfl, i_Mo⟩
theorem k_mo_245 : Cond.constantLong "TideTableModel" 245 12345 ∈ tt_good := List.mem_of_getElem? (i := 912) (by decide +kernel)
theorem k_mo_247 : Cond.constantLong "TideTableModel" 247 2147483647 ∈ tt_good := List.mem_of_getElem? (i := 913) (by decide +kernel)
theorem fp_5_25 : tt_FP 5 25 .long := ⟨_, _, _, t_Mo, rfl, t_Mo_ok, n_Mo, rfl, by decide +kernel⟩
theorem k_mo_249 : Cond.constantLong "TideTableModel" 249 65536 ∈ tt_good := List.mem_of_getElem? (i := 914) (by decide +kernel)
def y_mo_drawnNow : MethodName := ⟨"TideTableModel", "drawnNow", "(III)I"⟩
theorem mw_mo_drawnNow : tt_Mw y_mo_drawnNow prog_7_method_67_code 9 (some .int) 3 := ⟨List.mem_of_getElem? (i := 907) (by decide +kernel), List.mem_of_getElem? (i := 48) (by decide +kernel), by decide, by decide, by decide⟩
theorem mi_mo_drawnNow : Cond.instanceMethod y_mo_drawnNow ∈ tt_good := List.mem_of_getElem? (i := 906) (by decide +kernel)
theorem mz_mo_drawnNow : Cond.selects "TideTableModel" y_mo_drawnNow y_mo_drawnNow ∈ tt_good := List.mem_of_getElem? (i := 36) (by decide +kernel)
theorem ml_mo_251 : Cond.methodLink "TideTableModel" 251 y_mo_draw ∈ tt_good := List.mem_of_getElem? (i := 908) (by decide +kernel)
def y_mo_drawn : MethodName := ⟨"TideTableModel", "drawn", "(III)I"⟩
theorem mw_mo_drawn : tt_Mw y_mo_drawn prog_7_method_68_code 4 (some .int) 3 := ⟨List.mem_of_getElem? (i := 904) (by decide +kernel), List.mem_of_getElem? (i := 48) (by decide +kernel), by decide, by decide, by decide⟩
theorem mi_mo_drawn : Cond.instanceMethod y_mo_drawn ∈ tt_good := List.mem_of_getElem? (i := 902) (by decide +kernel)
theorem mz_mo_drawn : Cond.selects "TideTableModel" y_mo_drawn y_mo_drawn ∈ tt_good := List.mem_of_getElem? (i := 903) (by decide +kernel)
theorem ml_mo_254 : Cond.methodLink "TideTableModel" 254 y_mo_drawnNow ∈ tt_good := List.mem_of_getElem? (i := 905) (by decide +kernel)
def y_mo_image : MethodName := ⟨"TideTableModel", "image", "()I"⟩
theorem mw_mo_image : tt_Mw y_mo_image prog_7_method_69_code 2 (some .int) 0 := ⟨List.mem_of_getElem? (i := 918) (by decide +kernel), List.mem_of_getElem? (i := 48) (by decide +kernel), by decide, by decide, by decide⟩
theorem mi_mo_image : Cond.instanceMethod y_mo_image ∈ tt_good := List.mem_of_getElem? (i := 916) (by decide +kernel)
theorem mz_mo_image : Cond.selects "TideTableModel" y_mo_image y_mo_image ∈ tt_good := List.mem_of_getElem? (i := 917) (by decide +kernel)
theorem fl_mo_257 : tt_FL "TideTableModel" 257 5 26 := ⟨_, _, _, rfl, by decide, rfl, List.mem_of_getElem? (i := 597) (by decide +kernel), rfl, i_Mo⟩
theorem fp_5_26 : tt_FP 5 26 .boolean := ⟨_, _, _, t_Mo, rfl, t_Mo_ok, n_Mo, rfl, by decide +kernel⟩
theorem fl_mo_260 : tt_FL "TideTableModel" 260 5 27 := ⟨_, _, _, rfl, by decide, rfl, List.mem_of_getElem? (i := 598) (by decide +kernel), rfl, i_Mo⟩
theorem fp_5_27 : tt_FP 5 27 .int := ⟨_, _, _, t_Mo, rfl, t_Mo_ok, n_Mo, rfl, by decide +kernel⟩
theorem fl_mo_263 : tt_FL "TideTableModel" 263 5 28 := ⟨_, _, _, rfl, by decide, rfl, List.mem_of_getElem? (i := 599) (by decide +kernel), rfl, i_Mo⟩
theorem fp_5_28 : tt_FP 5 28 .int := ⟨_, _, _, t_Mo, rfl, t_Mo_ok, n_Mo, rfl, by decide +kernel⟩
def y_mo_restore : MethodName := ⟨"TideTableModel", "restore", "()I"⟩
theorem mw_mo_restore : tt_Mw y_mo_restore prog_7_method_70_code 2 (some .int) 0 := ⟨List.mem_of_getElem? (i := 922) (by decide +kernel), List.mem_of_getElem? (i := 48) (by decide +kernel), by decide, by decide, by decide⟩
theorem mi_mo_restore : Cond.instanceMethod y_mo_restore ∈ tt_good := List.mem_of_getElem? (i := 920) (by decide +kernel)
theorem mz_mo_restore : Cond.selects "TideTableModel" y_mo_restore y_mo_restore ∈ tt_good := List.mem_of_getElem? (i := 921) (by decide +kernel)
def y_mo_greatest : MethodName := ⟨"TideTableModel", "greatest", "()I"⟩
theorem mw_mo_greatest : tt_Mw y_mo_greatest prog_7_method_71_code 5 (some .int) 0 := ⟨List.mem_of_getElem? (i := 935) (by decide +kernel), List.mem_of_getElem? (i := 48) (by decide +kernel), by decide, by decide, by decide⟩
theorem mi_mo_greatest : Cond.instanceMethod y_mo_greatest ∈ tt_good := List.mem_of_getElem? (i := 934) (by decide +kernel)
theorem mz_mo_greatest : Cond.selects "TideTableModel" y_mo_greatest y_mo_greatest ∈ tt_good := List.mem_of_getElem? (i := 40) (by decide +kernel)
theorem k_mo_266 : Cond.constant "TideTableModel" 266 (-268435456) ∈ tt_good := List.mem_of_getElem? (i := 936) (by decide +kernel)
def y_mo_ofPorts : MethodName := ⟨"TideTableModel", "ofPorts", "(I)I"⟩
theorem mw_mo_ofPorts : tt_Mw y_mo_ofPorts prog_7_method_72_code 4 (some .int) 1 := ⟨List.mem_of_getElem? (i := 932) (by decide +kernel), List.mem_of_getElem? (i := 48) (by decide +kernel), by decide, by decide, by decide⟩
theorem mi_mo_ofPorts : Cond.instanceMethod y_mo_ofPorts ∈ tt_good := List.mem_of_getElem? (i := 931) (by decide +kernel)
theorem mz_mo_ofPorts : Cond.selects "TideTableModel" y_mo_ofPorts y_mo_ofPorts ∈ tt_good := List.mem_of_getElem? (i := 39) (by decide +kernel)
def y_mo_howMany : MethodName := ⟨"TideTableModel", "howMany", "(I)I"⟩
theorem mw_mo_howMany : tt_Mw y_mo_howMany prog_7_method_73_code 2 (some .int) 1 := ⟨List.mem_of_getElem? (i := 929) (by decide +kernel), List.mem_of_getElem? (i := 48) (by decide +kernel), by decide, by decide, by decide⟩
theorem mi_mo_howMany : Cond.instanceMethod y_mo_howMany ∈ tt_good := List.mem_of_getElem? (i := 928) (by decide +kernel)
theorem mz_mo_howMany : Cond.selects "TideTableModel" y_mo_howMany y_mo_howMany ∈ tt_good := List.mem_of_getElem? (i := 38) (by decide +kernel)
theorem ml_mo_267 : Cond.methodLink "TideTableModel" 267 y_mo_ofPorts ∈ tt_good := List.mem_of_getElem? (i := 930) (by decide +kernel)
theorem ml_mo_270 : Cond.methodLink "TideTableModel" 270 y_mo_greatest ∈ tt_good := List.mem_of_getElem? (i := 933) (by decide +kernel)
def y_mo_count : MethodName := ⟨"TideTableModel", "count", "(I)I"⟩
theorem mw_mo_count : tt_Mw y_mo_count prog_7_method_74_code 2 (some .int) 1 := ⟨List.mem_of_getElem? (i := 926) (by decide +kernel), List.mem_of_getElem? (i := 48) (by decide +kernel), by decide, by decide, by decide⟩
theorem mi_mo_count : Cond.instanceMethod y_mo_count ∈ tt_good := List.mem_of_getElem? (i := 924) (by decide +kernel)
theorem mz_mo_count : Cond.selects "TideTableModel" y_mo_count y_mo_count ∈ tt_good := List.mem_of_getElem? (i := 925) (by decide +kernel)
theorem ml_mo_273 : Cond.methodLink "TideTableModel" 273 y_mo_howMany ∈ tt_good := List.mem_of_getElem? (i := 927) (by decide +kernel)
def y_mo_mix : MethodName := ⟨"TideTableModel", "mix", "(J)V"⟩
theorem mw_mo_mix : tt_Mw y_mo_mix prog_7_method_75_code 3 none 1 := ⟨List.mem_of_getElem? (i := 944) (by decide +kernel), List.mem_of_getElem? (i := 48) (by decide +kernel), by decide, by decide, by decide⟩
theorem mi_mo_mix : Cond.instanceMethod y_mo_mix ∈ tt_good := List.mem_of_getElem? (i := 943) (by decide +kernel)
theorem mz_mo_mix : Cond.selects "TideTableModel" y_mo_mix y_mo_mix ∈ tt_good := List.mem_of_getElem? (i := 41) (by decide +kernel)
theorem k_mo_276 : Cond.constantLong "TideTableModel" 276 31 ∈ tt_good := List.mem_of_getElem? (i := 945) (by decide +kernel)
theorem fl_mo_278 : tt_FL "TideTableModel" 278 5 38 := ⟨_, _, _, rfl, by decide, rfl, List.mem_of_getElem? (i := 609) (by decide +kernel), rfl, i_Mo⟩
theorem fp_5_38 : tt_FP 5 38 .long := ⟨_, _, _, t_Mo, rfl, t_Mo_ok, n_Mo, rfl, by decide +kernel⟩
def y_mo_tickBy : MethodName := ⟨"TideTableModel", "tickBy", "(I)I"⟩
theorem mw_mo_tickBy : tt_Mw y_mo_tickBy prog_7_method_76_code 1 (some .int) 1 := ⟨List.mem_of_getElem? (i := 948) (by decide +kernel), List.mem_of_getElem? (i := 48) (by decide +kernel), by decide, by decide, by decide⟩
theorem ms_mo_tickBy : Cond.static y_mo_tickBy ∈ tt_good := List.mem_of_getElem? (i := 947) (by decide +kernel)
def y_mo_digest : MethodName := ⟨"TideTableModel", "digest", "()J"⟩
theorem mw_mo_digest : tt_Mw y_mo_digest prog_7_method_77_code 3 (some .long) 0 := ⟨List.mem_of_getElem? (i := 940) (by decide +kernel), List.mem_of_getElem? (i := 48) (by decide +kernel), by decide, by decide, by decide⟩
theorem mi_mo_digest : Cond.instanceMethod y_mo_digest ∈ tt_good := List.mem_of_getElem? (i := 938) (by decide +kernel)
theorem mz_mo_digest : Cond.selects "TideTableModel" y_mo_digest y_mo_digest ∈ tt_good := List.mem_of_getElem? (i := 939) (by decide +kernel)
theorem k_mo_281 : Cond.constantLong "TideTableModel" 281 1423 ∈ tt_good := List.mem_of_getElem? (i := 941) (by decide +kernel)
theorem ml_mo_283 : Cond.methodLink "TideTableModel" 283 y_mo_mix ∈ tt_good := List.mem_of_getElem? (i := 942) (by decide +kernel)
theorem ml_mo_287 : Cond.methodLink "TideTableModel" 287 y_mo_tickBy ∈ tt_good := List.mem_of_getElem? (i := 946) (by decide +kernel)
theorem k_in_265 : Cond.constant "java/lang/Integer" 265 1431655765 ∈ tt_good := List.mem_of_getElem? (i := 349) (by decide +kernel)
theorem k_in_266 : Cond.constant "java/lang/Integer" 266 858993459 ∈ tt_good := List.mem_of_getElem? (i := 350) (by decide +kernel)
theorem k_in_267 : Cond.constant "java/lang/Integer" 267 252645135 ∈ tt_good := List.mem_of_getElem? (i := 351) (by decide +kernel)
def y_ma_min : MethodName := ⟨"java/lang/Math", "min", "(II)I"⟩
theorem mw_ma_min : tt_Mw y_ma_min prog_10_method_69_code 2 (some .int) 2 := ⟨List.mem_of_getElem? (i := 250) (by decide +kernel), List.mem_of_getElem? (i := 51) (by decide +kernel), by decide, by decide, by decide⟩
theorem ms_ma_min : Cond.static y_ma_min ∈ tt_good := List.mem_of_getElem? (i := 249) (by decide +kernel)
def y_sr_length : MethodName := ⟨"java/lang/String", "length", "()I"⟩
theorem mw_sr_length : tt_Mw y_sr_length prog_11_method_54_code 1 (some .int) 0 := ⟨List.mem_of_getElem? (i := 234) (by decide +kernel), List.mem_of_getElem? (i := 49) (by decide +kernel), by decide, by decide, by decide⟩
theorem mi_sr_length : Cond.instanceMethod y_sr_length ∈ tt_good := List.mem_of_getElem? (i := 232) (by decide +kernel)
theorem mz_sr_length : Cond.selects "java/lang/String" y_sr_length y_sr_length ∈ tt_good := List.mem_of_getElem? (i := 233) (by decide +kernel)
def y_sr_coder : MethodName := ⟨"java/lang/String", "coder", "()B"⟩
theorem mw_sr_coder : tt_Mw y_sr_coder prog_11_method_152_code 1 (some .byte) 0 := ⟨List.mem_of_getElem? (i := 238) (by decide +kernel), List.mem_of_getElem? (i := 49) (by decide +kernel), by decide, by decide, by decide⟩
theorem mi_sr_coder : Cond.instanceMethod y_sr_coder ∈ tt_good := List.mem_of_getElem? (i := 236) (by decide +kernel)
theorem mz_sr_coder : Cond.selects "java/lang/String" y_sr_coder y_sr_coder ∈ tt_good := List.mem_of_getElem? (i := 237) (by decide +kernel)
theorem ml_sr_335 : Cond.methodLink "java/lang/String" 335 y_sr_coder ∈ tt_good := List.mem_of_getElem? (i := 235) (by decide +kernel)
def y_sr_indexOf2 : MethodName := ⟨"java/lang/String", "indexOf", "(II)I"⟩
theorem mw_sr_indexOf2 : tt_Mw y_sr_indexOf2 prog_11_method_80_code 3 (some .int) 2 := ⟨List.mem_of_getElem? (i := 225) (by decide +kernel), List.mem_of_getElem? (i := 49) (by decide +kernel), by decide, by decide, by decide⟩
theorem mi_sr_indexOf2 : Cond.instanceMethod y_sr_indexOf2 ∈ tt_good := List.mem_of_getElem? (i := 223) (by decide +kernel)
theorem mz_sr_indexOf2 : Cond.selects "java/lang/String" y_sr_indexOf2 y_sr_indexOf2 ∈ tt_good := List.mem_of_getElem? (i := 224) (by decide +kernel)
theorem ml_sr_633 : Cond.methodLink "java/lang/String" 633 y_sr_indexOf2 ∈ tt_good := List.mem_of_getElem? (i := 222) (by decide +kernel)
def y_sr_isLatin1 : MethodName := ⟨"java/lang/String", "isLatin1", "()Z"⟩
theorem mw_sr_isLatin1 : tt_Mw y_sr_isLatin1 prog_11_method_154_code 1 (some .boolean) 0 := ⟨List.mem_of_getElem? (i := 229) (by decide +kernel), List.mem_of_getElem? (i := 49) (by decide +kernel), by decide, by decide, by decide⟩
theorem mi_sr_isLatin1 : Cond.instanceMethod y_sr_isLatin1 ∈ tt_good := List.mem_of_getElem? (i := 227) (by decide +kernel)
theorem mz_sr_isLatin1 : Cond.selects "java/lang/String" y_sr_isLatin1 y_sr_isLatin1 ∈ tt_good := List.mem_of_getElem? (i := 228) (by decide +kernel)
theorem ml_sr_492 : Cond.methodLink "java/lang/String" 492 y_sr_isLatin1 ∈ tt_good := List.mem_of_getElem? (i := 226) (by decide +kernel)
theorem ml_sr_505 : Cond.methodLink "java/lang/String" 505 y_sr_length ∈ tt_good := List.mem_of_getElem? (i := 231) (by decide +kernel)
def y_sl_indexOf : MethodName := ⟨"java/lang/StringLatin1", "indexOf", "([BIII)I"⟩
theorem mw_sl_indexOf : tt_Mw y_sl_indexOf prog_12_method_22_code 4 (some .int) 4 := ⟨List.mem_of_getElem? (i := 241) (by decide +kernel), List.mem_of_getElem? (i := 50) (by decide +kernel), by decide, by decide, by decide⟩
theorem ms_sl_indexOf : Cond.static y_sl_indexOf ∈ tt_good := List.mem_of_getElem? (i := 240) (by decide +kernel)
theorem ml_sr_637 : Cond.methodLink "java/lang/String" 637 y_sl_indexOf ∈ tt_good := List.mem_of_getElem? (i := 239) (by decide +kernel)
def y_sr_checkBoundsBeginEnd : MethodName := ⟨"java/lang/String", "checkBoundsBeginEnd", "(III)V"⟩
theorem mw_sr_checkBoundsBeginEnd : tt_Mw y_sr_checkBoundsBeginEnd prog_11_method_158_code 3 none 3 := ⟨List.mem_of_getElem? (i := 271) (by decide +kernel), List.mem_of_getElem? (i := 49) (by decide +kernel), by decide, by decide, by decide⟩
theorem ms_sr_checkBoundsBeginEnd : Cond.static y_sr_checkBoundsBeginEnd ∈ tt_good := List.mem_of_getElem? (i := 270) (by decide +kernel)
def y_sl_canEncode : MethodName := ⟨"java/lang/StringLatin1", "canEncode", "(I)Z"⟩
theorem mw_sl_canEncode : tt_Mw y_sl_canEncode prog_12_method_4_code 1 (some .boolean) 1 := ⟨List.mem_of_getElem? (i := 244) (by decide +kernel), List.mem_of_getElem? (i := 50) (by decide +kernel), by decide, by decide, by decide⟩
theorem ms_sl_canEncode : Cond.static y_sl_canEncode ∈ tt_good := List.mem_of_getElem? (i := 243) (by decide +kernel)
theorem ml_sl_88 : Cond.methodLink "java/lang/StringLatin1" 88 y_sl_canEncode ∈ tt_good := List.mem_of_getElem? (i := 242) (by decide +kernel)
theorem ml_sl_92 : Cond.methodLink "java/lang/StringLatin1" 92 y_ma_max ∈ tt_good := List.mem_of_getElem? (i := 245) (by decide +kernel)
theorem ml_sl_38 : Cond.methodLink "java/lang/StringLatin1" 38 y_ma_min ∈ tt_good := List.mem_of_getElem? (i := 248) (by decide +kernel)
def y_sl_indexOfChar : MethodName := ⟨"java/lang/StringLatin1", "indexOfChar", "([BIII)I"⟩
theorem mw_sl_indexOfChar : tt_Mw y_sl_indexOfChar prog_12_method_23_code 6 (some .int) 4 := ⟨List.mem_of_getElem? (i := 253) (by decide +kernel), List.mem_of_getElem? (i := 50) (by decide +kernel), by decide, by decide, by decide⟩
theorem ms_sl_indexOfChar : Cond.static y_sl_indexOfChar ∈ tt_good := List.mem_of_getElem? (i := 252) (by decide +kernel)
theorem ml_sl_95 : Cond.methodLink "java/lang/StringLatin1" 95 y_sl_indexOfChar ∈ tt_good := List.mem_of_getElem? (i := 251) (by decide +kernel)
theorem ml_lw_9 : Cond.methodLink "TideTableLaw" 9 y_tb_init ∈ tt_good := List.mem_of_getElem? (i := 58) (by decide +kernel)
theorem ml_lw_12 : Cond.methodLink "TideTableLaw" 12 y_mo_init ∈ tt_good := List.mem_of_getElem? (i := 564) (by decide +kernel)
theorem ml_lw_13 : Cond.methodLink "TideTableLaw" 13 y_tb_letter ∈ tt_good := List.mem_of_getElem? (i := 190) (by decide +kernel)
theorem ml_lw_17 : Cond.methodLink "TideTableLaw" 17 y_mo_letter ∈ tt_good := List.mem_of_getElem? (i := 689) (by decide +kernel)
theorem ml_lw_18 : Cond.methodLink "TideTableLaw" 18 y_tb_blank ∈ tt_good := List.mem_of_getElem? (i := 197) (by decide +kernel)
theorem ml_lw_22 : Cond.methodLink "TideTableLaw" 22 y_mo_blank ∈ tt_good := List.mem_of_getElem? (i := 696) (by decide +kernel)
theorem ml_lw_23 : Cond.methodLink "TideTableLaw" 23 y_tb_fault ∈ tt_good := List.mem_of_getElem? (i := 201) (by decide +kernel)
theorem ml_lw_26 : Cond.methodLink "TideTableLaw" 26 y_mo_fault ∈ tt_good := List.mem_of_getElem? (i := 700) (by decide +kernel)
theorem ml_lw_27 : Cond.methodLink "TideTableLaw" 27 y_tb_ports ∈ tt_good := List.mem_of_getElem? (i := 300) (by decide +kernel)
theorem ml_lw_30 : Cond.methodLink "TideTableLaw" 30 y_mo_ports ∈ tt_good := List.mem_of_getElem? (i := 725) (by decide +kernel)
theorem ml_lw_31 : Cond.methodLink "TideTableLaw" 31 y_tb_port ∈ tt_good := List.mem_of_getElem? (i := 331) (by decide +kernel)
theorem ml_lw_35 : Cond.methodLink "TideTableLaw" 35 y_mo_port ∈ tt_good := List.mem_of_getElem? (i := 729) (by decide +kernel)
theorem ml_lw_36 : Cond.methodLink "TideTableLaw" 36 y_tb_wave ∈ tt_good := List.mem_of_getElem? (i := 353) (by decide +kernel)
theorem ml_lw_40 : Cond.methodLink "TideTableLaw" 40 y_mo_wave ∈ tt_good := List.mem_of_getElem? (i := 755) (by decide +kernel)
theorem ml_lw_41 : Cond.methodLink "TideTableLaw" 41 y_tb_as ∈ tt_good := List.mem_of_getElem? (i := 361) (by decide +kernel)
theorem ml_lw_44 : Cond.methodLink "TideTableLaw" 44 y_mo_as ∈ tt_good := List.mem_of_getElem? (i := 765) (by decide +kernel)
theorem ml_lw_45 : Cond.methodLink "TideTableLaw" 45 y_tb_round ∈ tt_good := List.mem_of_getElem? (i := 369) (by decide +kernel)
theorem ml_lw_48 : Cond.methodLink "TideTableLaw" 48 y_mo_round ∈ tt_good := List.mem_of_getElem? (i := 769) (by decide +kernel)
theorem ml_lw_49 : Cond.methodLink "TideTableLaw" 49 y_tb_sum ∈ tt_good := List.mem_of_getElem? (i := 377) (by decide +kernel)
theorem ml_lw_52 : Cond.methodLink "TideTableLaw" 52 y_mo_sum ∈ tt_good := List.mem_of_getElem? (i := 773) (by decide +kernel)
theorem ml_lw_53 : Cond.methodLink "TideTableLaw" 53 y_tb_height ∈ tt_good := List.mem_of_getElem? (i := 392) (by decide +kernel)
theorem ml_lw_56 : Cond.methodLink "TideTableLaw" 56 y_mo_height ∈ tt_good := List.mem_of_getElem? (i := 789) (by decide +kernel)
theorem ml_lw_57 : Cond.methodLink "TideTableLaw" 57 y_tb_tide ∈ tt_good := List.mem_of_getElem? (i := 413) (by decide +kernel)
theorem ml_lw_61 : Cond.methodLink "TideTableLaw" 61 y_mo_tide ∈ tt_good := List.mem_of_getElem? (i := 802) (by decide +kernel)
theorem ml_lw_62 : Cond.methodLink "TideTableLaw" 62 y_tb_gate ∈ tt_good := List.mem_of_getElem? (i := 431) (by decide +kernel)
theorem ml_lw_66 : Cond.methodLink "TideTableLaw" 66 y_mo_gate ∈ tt_good := List.mem_of_getElem? (i := 818) (by decide +kernel)
theorem ml_lw_67 : Cond.methodLink "TideTableLaw" 67 y_tb_dry ∈ tt_good := List.mem_of_getElem? (i := 441) (by decide +kernel)
theorem ml_lw_70 : Cond.methodLink "TideTableLaw" 70 y_mo_dry ∈ tt_good := List.mem_of_getElem? (i := 828) (by decide +kernel)
theorem ml_lw_71 : Cond.methodLink "TideTableLaw" 71 y_tb_stream ∈ tt_good := List.mem_of_getElem? (i := 445) (by decide +kernel)
theorem ml_lw_74 : Cond.methodLink "TideTableLaw" 74 y_mo_stream ∈ tt_good := List.mem_of_getElem? (i := 835) (by decide +kernel)
theorem ml_lw_75 : Cond.methodLink "TideTableLaw" 75 y_tb_slack ∈ tt_good := List.mem_of_getElem? (i := 449) (by decide +kernel)
theorem ml_lw_78 : Cond.methodLink "TideTableLaw" 78 y_mo_slack ∈ tt_good := List.mem_of_getElem? (i := 842) (by decide +kernel)
theorem ml_lw_79 : Cond.methodLink "TideTableLaw" 79 y_tb_trip ∈ tt_good := List.mem_of_getElem? (i := 453) (by decide +kernel)
theorem ml_lw_82 : Cond.methodLink "TideTableLaw" 82 y_mo_trip ∈ tt_good := List.mem_of_getElem? (i := 849) (by decide +kernel)
theorem ml_lw_83 : Cond.methodLink "TideTableLaw" 83 y_tb_leave ∈ tt_good := List.mem_of_getElem? (i := 461) (by decide +kernel)
theorem ml_lw_86 : Cond.methodLink "TideTableLaw" 86 y_mo_leave ∈ tt_good := List.mem_of_getElem? (i := 859) (by decide +kernel)
theorem ml_lw_87 : Cond.methodLink "TideTableLaw" 87 y_tb_mean ∈ tt_good := List.mem_of_getElem? (i := 465) (by decide +kernel)
theorem ml_lw_90 : Cond.methodLink "TideTableLaw" 90 y_mo_mean ∈ tt_good := List.mem_of_getElem? (i := 866) (by decide +kernel)
theorem ml_lw_91 : Cond.methodLink "TideTableLaw" 91 y_tb_mark ∈ tt_good := List.mem_of_getElem? (i := 469) (by decide +kernel)
theorem ml_lw_94 : Cond.methodLink "TideTableLaw" 94 y_mo_mark ∈ tt_good := List.mem_of_getElem? (i := 873) (by decide +kernel)
theorem ml_lw_95 : Cond.methodLink "TideTableLaw" 95 y_tb_ratio ∈ tt_good := List.mem_of_getElem? (i := 473) (by decide +kernel)
theorem ml_lw_98 : Cond.methodLink "TideTableLaw" 98 y_mo_ratio ∈ tt_good := List.mem_of_getElem? (i := 877) (by decide +kernel)
theorem ml_lw_99 : Cond.methodLink "TideTableLaw" 99 y_tb_add ∈ tt_good := List.mem_of_getElem? (i := 477) (by decide +kernel)
theorem ml_lw_102 : Cond.methodLink "TideTableLaw" 102 y_mo_add ∈ tt_good := List.mem_of_getElem? (i := 881) (by decide +kernel)
theorem ml_lw_103 : Cond.methodLink "TideTableLaw" 103 y_tb_take ∈ tt_good := List.mem_of_getElem? (i := 482) (by decide +kernel)
theorem ml_lw_106 : Cond.methodLink "TideTableLaw" 106 y_mo_take ∈ tt_good := List.mem_of_getElem? (i := 885) (by decide +kernel)
theorem ml_lw_107 : Cond.methodLink "TideTableLaw" 107 y_tb_be ∈ tt_good := List.mem_of_getElem? (i := 490) (by decide +kernel)
theorem ml_lw_110 : Cond.methodLink "TideTableLaw" 110 y_mo_be ∈ tt_good := List.mem_of_getElem? (i := 889) (by decide +kernel)
theorem ml_lw_111 : Cond.methodLink "TideTableLaw" 111 y_tb_see ∈ tt_good := List.mem_of_getElem? (i := 494) (by decide +kernel)
theorem ml_lw_115 : Cond.methodLink "TideTableLaw" 115 y_mo_see ∈ tt_good := List.mem_of_getElem? (i := 893) (by decide +kernel)
theorem ml_lw_116 : Cond.methodLink "TideTableLaw" 116 y_tb_forget ∈ tt_good := List.mem_of_getElem? (i := 498) (by decide +kernel)
theorem ml_lw_119 : Cond.methodLink "TideTableLaw" 119 y_mo_forget ∈ tt_good := List.mem_of_getElem? (i := 897) (by decide +kernel)
theorem ml_lw_120 : Cond.methodLink "TideTableLaw" 120 y_tb_drawn ∈ tt_good := List.mem_of_getElem? (i := 502) (by decide +kernel)
theorem ml_lw_123 : Cond.methodLink "TideTableLaw" 123 y_mo_drawn ∈ tt_good := List.mem_of_getElem? (i := 901) (by decide +kernel)
theorem ml_lw_124 : Cond.methodLink "TideTableLaw" 124 y_tb_image ∈ tt_good := List.mem_of_getElem? (i := 511) (by decide +kernel)
theorem ml_lw_127 : Cond.methodLink "TideTableLaw" 127 y_mo_image ∈ tt_good := List.mem_of_getElem? (i := 915) (by decide +kernel)
theorem ml_lw_128 : Cond.methodLink "TideTableLaw" 128 y_tb_restore ∈ tt_good := List.mem_of_getElem? (i := 525) (by decide +kernel)
theorem ml_lw_131 : Cond.methodLink "TideTableLaw" 131 y_mo_restore ∈ tt_good := List.mem_of_getElem? (i := 919) (by decide +kernel)
theorem ml_lw_132 : Cond.methodLink "TideTableLaw" 132 y_tb_count ∈ tt_good := List.mem_of_getElem? (i := 529) (by decide +kernel)
theorem ml_lw_135 : Cond.methodLink "TideTableLaw" 135 y_mo_count ∈ tt_good := List.mem_of_getElem? (i := 923) (by decide +kernel)
theorem ml_lw_136 : Cond.methodLink "TideTableLaw" 136 y_tb_digest ∈ tt_good := List.mem_of_getElem? (i := 546) (by decide +kernel)
theorem ml_lw_140 : Cond.methodLink "TideTableLaw" 140 y_mo_digest ∈ tt_good := List.mem_of_getElem? (i := 937) (by decide +kernel)
