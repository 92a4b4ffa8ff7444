section
-- ===== PART A: goes FIRST, ahead of the names: the tables' words, and 'selects' of the private methods out of them =====
/-- a private method of a class that the tables say can be made, by its rows of tables_1 -/
def lw_okq (q : MethodName × Nat) : Prop := (q.1.cls ≠ "java/lang/invoke/MethodHandle" ∧ q.1.cls ≠ "java/lang/invoke/VarHandle") ∧ Cond.instantiable q.1.cls q.2 ∈ tables_1 ∧ Cond.privateMethod q.1 ∈ tables_1 ∧ Cond.instanceMethod q.1 ∈ tables_1
theorem lw_p0 : lw_okq (⟨"TideTable$Page", "canEndAhead", "(I)Z"⟩, 4) := ⟨⟨by decide +kernel, by decide +kernel⟩, List.mem_of_getElem? (i := 23) (by decide +kernel), List.mem_of_getElem? (i := 172) (by decide +kernel), List.mem_of_getElem? (i := 173) (by decide +kernel)⟩
theorem lw_p1 : lw_okq (⟨"TideTable$Page", "fits", "(I)Z"⟩, 4) := ⟨⟨by decide +kernel, by decide +kernel⟩, List.mem_of_getElem? (i := 23) (by decide +kernel), List.mem_of_getElem? (i := 176) (by decide +kernel), List.mem_of_getElem? (i := 177) (by decide +kernel)⟩
theorem lw_p2 : lw_okq (⟨"TideTable$Page", "readPort", "(ILTideTable$Port;)I"⟩, 4) := ⟨⟨by decide +kernel, by decide +kernel⟩, List.mem_of_getElem? (i := 23) (by decide +kernel), List.mem_of_getElem? (i := 285) (by decide +kernel), List.mem_of_getElem? (i := 286) (by decide +kernel)⟩
theorem lw_p3 : lw_okq (⟨"TideTable$Page", "numberAt", "(I)I"⟩, 4) := ⟨⟨by decide +kernel, by decide +kernel⟩, List.mem_of_getElem? (i := 23) (by decide +kernel), List.mem_of_getElem? (i := 289) (by decide +kernel), List.mem_of_getElem? (i := 290) (by decide +kernel)⟩
theorem lw_p4 : lw_okq (⟨"TideTable", "placeOfTide", "(I)I"⟩, 7) := ⟨⟨by decide +kernel, by decide +kernel⟩, List.mem_of_getElem? (i := 15) (by decide +kernel), List.mem_of_getElem? (i := 399) (by decide +kernel), List.mem_of_getElem? (i := 400) (by decide +kernel)⟩
theorem lw_p5 : lw_okq (⟨"TideTable", "turnAt", "(I)I"⟩, 7) := ⟨⟨by decide +kernel, by decide +kernel⟩, List.mem_of_getElem? (i := 15) (by decide +kernel), List.mem_of_getElem? (i := 403) (by decide +kernel), List.mem_of_getElem? (i := 404) (by decide +kernel)⟩
theorem lw_p6 : lw_okq (⟨"TideTable", "firstOfGate", "(II)I"⟩, 7) := ⟨⟨by decide +kernel, by decide +kernel⟩, List.mem_of_getElem? (i := 15) (by decide +kernel), List.mem_of_getElem? (i := 414) (by decide +kernel), List.mem_of_getElem? (i := 415) (by decide +kernel)⟩
theorem lw_p7 : lw_okq (⟨"TideTable", "lastOfGate", "(II)I"⟩, 7) := ⟨⟨by decide +kernel, by decide +kernel⟩, List.mem_of_getElem? (i := 15) (by decide +kernel), List.mem_of_getElem? (i := 418) (by decide +kernel), List.mem_of_getElem? (i := 419) (by decide +kernel)⟩
theorem lw_p8 : lw_okq (⟨"TideTable", "tripFrom", "(II)I"⟩, 7) := ⟨⟨by decide +kernel, by decide +kernel⟩, List.mem_of_getElem? (i := 15) (by decide +kernel), List.mem_of_getElem? (i := 438) (by decide +kernel), List.mem_of_getElem? (i := 439) (by decide +kernel)⟩
theorem lw_p9 : lw_okq (⟨"TideTable", "withPort", "(JI)J"⟩, 7) := ⟨⟨by decide +kernel, by decide +kernel⟩, List.mem_of_getElem? (i := 15) (by decide +kernel), List.mem_of_getElem? (i := 533) (by decide +kernel), List.mem_of_getElem? (i := 534) (by decide +kernel)⟩
theorem lw_p10 : lw_okq (⟨"TideTableModel", "read", "()I"⟩, 39) := ⟨⟨by decide +kernel, by decide +kernel⟩, List.mem_of_getElem? (i := 546) (by decide +kernel), List.mem_of_getElem? (i := 688) (by decide +kernel), List.mem_of_getElem? (i := 689) (by decide +kernel)⟩
theorem lw_p11 : lw_okq (⟨"TideTableModel", "readPort", "(I)I"⟩, 39) := ⟨⟨by decide +kernel, by decide +kernel⟩, List.mem_of_getElem? (i := 546) (by decide +kernel), List.mem_of_getElem? (i := 692) (by decide +kernel), List.mem_of_getElem? (i := 693) (by decide +kernel)⟩
theorem lw_p12 : lw_okq (⟨"TideTableModel", "at", "(I)I"⟩, 39) := ⟨⟨by decide +kernel, by decide +kernel⟩, List.mem_of_getElem? (i := 546) (by decide +kernel), List.mem_of_getElem? (i := 696) (by decide +kernel), List.mem_of_getElem? (i := 697) (by decide +kernel)⟩
theorem lw_p13 : lw_okq (⟨"TideTableModel", "readNumber", "(III)I"⟩, 39) := ⟨⟨by decide +kernel, by decide +kernel⟩, List.mem_of_getElem? (i := 546) (by decide +kernel), List.mem_of_getElem? (i := 703) (by decide +kernel), List.mem_of_getElem? (i := 704) (by decide +kernel)⟩
theorem lw_p14 : lw_okq (⟨"TideTableModel", "isFigure", "(I)Z"⟩, 39) := ⟨⟨by decide +kernel, by decide +kernel⟩, List.mem_of_getElem? (i := 546) (by decide +kernel), List.mem_of_getElem? (i := 707) (by decide +kernel), List.mem_of_getElem? (i := 708) (by decide +kernel)⟩
theorem lw_p15 : lw_okq (⟨"TideTableModel", "readWave", "(I)I"⟩, 39) := ⟨⟨by decide +kernel, by decide +kernel⟩, List.mem_of_getElem? (i := 546) (by decide +kernel), List.mem_of_getElem? (i := 711) (by decide +kernel), List.mem_of_getElem? (i := 712) (by decide +kernel)⟩
def lw_privs_1 : List (MethodName × Nat) := [(⟨"TideTable$Page", "canEndAhead", "(I)Z"⟩, 4), (⟨"TideTable$Page", "fits", "(I)Z"⟩, 4), (⟨"TideTable$Page", "readPort", "(ILTideTable$Port;)I"⟩, 4), (⟨"TideTable$Page", "numberAt", "(I)I"⟩, 4), (⟨"TideTable", "placeOfTide", "(I)I"⟩, 7), (⟨"TideTable", "turnAt", "(I)I"⟩, 7), (⟨"TideTable", "firstOfGate", "(II)I"⟩, 7), (⟨"TideTable", "lastOfGate", "(II)I"⟩, 7), (⟨"TideTable", "tripFrom", "(II)I"⟩, 7), (⟨"TideTable", "withPort", "(JI)J"⟩, 7), (⟨"TideTableModel", "read", "()I"⟩, 39), (⟨"TideTableModel", "readPort", "(I)I"⟩, 39), (⟨"TideTableModel", "at", "(I)I"⟩, 39), (⟨"TideTableModel", "readNumber", "(III)I"⟩, 39), (⟨"TideTableModel", "isFigure", "(I)Z"⟩, 39), (⟨"TideTableModel", "readWave", "(I)I"⟩, 39)]
theorem lw_r1 : ∀ q ∈ lw_privs_1, lw_okq q := List.forall_mem_cons.mpr ⟨lw_p0, List.forall_mem_cons.mpr ⟨lw_p1, List.forall_mem_cons.mpr ⟨lw_p2, List.forall_mem_cons.mpr ⟨lw_p3, List.forall_mem_cons.mpr ⟨lw_p4, List.forall_mem_cons.mpr ⟨lw_p5, List.forall_mem_cons.mpr ⟨lw_p6, List.forall_mem_cons.mpr ⟨lw_p7, List.forall_mem_cons.mpr ⟨lw_p8, List.forall_mem_cons.mpr ⟨lw_p9, List.forall_mem_cons.mpr ⟨lw_p10, List.forall_mem_cons.mpr ⟨lw_p11, List.forall_mem_cons.mpr ⟨lw_p12, List.forall_mem_cons.mpr ⟨lw_p13, List.forall_mem_cons.mpr ⟨lw_p14, List.forall_mem_cons.mpr ⟨lw_p15, fun _ h => absurd h List.not_mem_nil⟩⟩⟩⟩⟩⟩⟩⟩⟩⟩⟩⟩⟩⟩⟩⟩
theorem lw_p16 : lw_okq (⟨"TideTableModel", "isPort", "(I)Z"⟩, 39) := ⟨⟨by decide +kernel, by decide +kernel⟩, List.mem_of_getElem? (i := 546) (by decide +kernel), List.mem_of_getElem? (i := 723) (by decide +kernel), List.mem_of_getElem? (i := 724) (by decide +kernel)⟩
theorem lw_p17 : lw_okq (⟨"TideTableModel", "portNow", "(II)I"⟩, 39) := ⟨⟨by decide +kernel, by decide +kernel⟩, List.mem_of_getElem? (i := 546) (by decide +kernel), List.mem_of_getElem? (i := 727) (by decide +kernel), List.mem_of_getElem? (i := 728) (by decide +kernel)⟩
theorem lw_p18 : lw_okq (⟨"TideTableModel", "sortsOf", "(I)I"⟩, 39) := ⟨⟨by decide +kernel, by decide +kernel⟩, List.mem_of_getElem? (i := 546) (by decide +kernel), List.mem_of_getElem? (i := 731) (by decide +kernel), List.mem_of_getElem? (i := 732) (by decide +kernel)⟩
theorem lw_p19 : lw_okq (⟨"TideTableModel", "askOf", "(I)I"⟩, 39) := ⟨⟨by decide +kernel, by decide +kernel⟩, List.mem_of_getElem? (i := 546) (by decide +kernel), List.mem_of_getElem? (i := 738) (by decide +kernel), List.mem_of_getElem? (i := 739) (by decide +kernel)⟩
theorem lw_p20 : lw_okq (⟨"TideTableModel", "isWave", "(II)Z"⟩, 39) := ⟨⟨by decide +kernel, by decide +kernel⟩, List.mem_of_getElem? (i := 546) (by decide +kernel), List.mem_of_getElem? (i := 753) (by decide +kernel), List.mem_of_getElem? (i := 754) (by decide +kernel)⟩
theorem lw_p21 : lw_okq (⟨"TideTableModel", "waveNow", "(III)I"⟩, 39) := ⟨⟨by decide +kernel, by decide +kernel⟩, List.mem_of_getElem? (i := 546) (by decide +kernel), List.mem_of_getElem? (i := 757) (by decide +kernel), List.mem_of_getElem? (i := 758) (by decide +kernel)⟩
theorem lw_p22 : lw_okq (⟨"TideTableModel", "sumAt", "(II)I"⟩, 39) := ⟨⟨by decide +kernel, by decide +kernel⟩, List.mem_of_getElem? (i := 546) (by decide +kernel), List.mem_of_getElem? (i := 776) (by decide +kernel), List.mem_of_getElem? (i := 777) (by decide +kernel)⟩
theorem lw_p23 : lw_okq (⟨"TideTableModel", "turnAt", "(I)I"⟩, 39) := ⟨⟨by decide +kernel, by decide +kernel⟩, List.mem_of_getElem? (i := 546) (by decide +kernel), List.mem_of_getElem? (i := 780) (by decide +kernel), List.mem_of_getElem? (i := 781) (by decide +kernel)⟩
theorem lw_p24 : lw_okq (⟨"TideTableModel", "heightAt", "(II)I"⟩, 39) := ⟨⟨by decide +kernel, by decide +kernel⟩, List.mem_of_getElem? (i := 546) (by decide +kernel), List.mem_of_getElem? (i := 791) (by decide +kernel), List.mem_of_getElem? (i := 792) (by decide +kernel)⟩
theorem lw_p25 : lw_okq (⟨"TideTableModel", "ownHeight", "(II)I"⟩, 39) := ⟨⟨by decide +kernel, by decide +kernel⟩, List.mem_of_getElem? (i := 546) (by decide +kernel), List.mem_of_getElem? (i := 795) (by decide +kernel), List.mem_of_getElem? (i := 796) (by decide +kernel)⟩
theorem lw_p26 : lw_okq (⟨"TideTableModel", "silled", "(II)I"⟩, 39) := ⟨⟨by decide +kernel, by decide +kernel⟩, List.mem_of_getElem? (i := 546) (by decide +kernel), List.mem_of_getElem? (i := 799) (by decide +kernel), List.mem_of_getElem? (i := 800) (by decide +kernel)⟩
theorem lw_p27 : lw_okq (⟨"TideTableModel", "tideNow", "(IIII)I"⟩, 39) := ⟨⟨by decide +kernel, by decide +kernel⟩, List.mem_of_getElem? (i := 546) (by decide +kernel), List.mem_of_getElem? (i := 810) (by decide +kernel), List.mem_of_getElem? (i := 811) (by decide +kernel)⟩
theorem lw_p28 : lw_okq (⟨"TideTableModel", "turnsAt", "(II)I"⟩, 39) := ⟨⟨by decide +kernel, by decide +kernel⟩, List.mem_of_getElem? (i := 546) (by decide +kernel), List.mem_of_getElem? (i := 814) (by decide +kernel), List.mem_of_getElem? (i := 815) (by decide +kernel)⟩
theorem lw_p29 : lw_okq (⟨"TideTableModel", "then", "(II)I"⟩, 39) := ⟨⟨by decide +kernel, by decide +kernel⟩, List.mem_of_getElem? (i := 546) (by decide +kernel), List.mem_of_getElem? (i := 818) (by decide +kernel), List.mem_of_getElem? (i := 819) (by decide +kernel)⟩
theorem lw_p30 : lw_okq (⟨"TideTableModel", "gateNow", "(IIIII)I"⟩, 39) := ⟨⟨by decide +kernel, by decide +kernel⟩, List.mem_of_getElem? (i := 546) (by decide +kernel), List.mem_of_getElem? (i := 829) (by decide +kernel), List.mem_of_getElem? (i := 830) (by decide +kernel)⟩
theorem lw_p31 : lw_okq (⟨"TideTableModel", "dryNow", "(III)I"⟩, 39) := ⟨⟨by decide +kernel, by decide +kernel⟩, List.mem_of_getElem? (i := 546) (by decide +kernel), List.mem_of_getElem? (i := 837) (by decide +kernel), List.mem_of_getElem? (i := 838) (by decide +kernel)⟩
def lw_privs_2 : List (MethodName × Nat) := [(⟨"TideTableModel", "isPort", "(I)Z"⟩, 39), (⟨"TideTableModel", "portNow", "(II)I"⟩, 39), (⟨"TideTableModel", "sortsOf", "(I)I"⟩, 39), (⟨"TideTableModel", "askOf", "(I)I"⟩, 39), (⟨"TideTableModel", "isWave", "(II)Z"⟩, 39), (⟨"TideTableModel", "waveNow", "(III)I"⟩, 39), (⟨"TideTableModel", "sumAt", "(II)I"⟩, 39), (⟨"TideTableModel", "turnAt", "(I)I"⟩, 39), (⟨"TideTableModel", "heightAt", "(II)I"⟩, 39), (⟨"TideTableModel", "ownHeight", "(II)I"⟩, 39), (⟨"TideTableModel", "silled", "(II)I"⟩, 39), (⟨"TideTableModel", "tideNow", "(IIII)I"⟩, 39), (⟨"TideTableModel", "turnsAt", "(II)I"⟩, 39), (⟨"TideTableModel", "then", "(II)I"⟩, 39), (⟨"TideTableModel", "gateNow", "(IIIII)I"⟩, 39), (⟨"TideTableModel", "dryNow", "(III)I"⟩, 39)]
theorem lw_r2 : ∀ q ∈ lw_privs_2, lw_okq q := List.forall_mem_cons.mpr ⟨lw_p16, List.forall_mem_cons.mpr ⟨lw_p17, List.forall_mem_cons.mpr ⟨lw_p18, List.forall_mem_cons.mpr ⟨lw_p19, List.forall_mem_cons.mpr ⟨lw_p20, List.forall_mem_cons.mpr ⟨lw_p21, List.forall_mem_cons.mpr ⟨lw_p22, List.forall_mem_cons.mpr ⟨lw_p23, List.forall_mem_cons.mpr ⟨lw_p24, List.forall_mem_cons.mpr ⟨lw_p25, List.forall_mem_cons.mpr ⟨lw_p26, List.forall_mem_cons.mpr ⟨lw_p27, List.forall_mem_cons.mpr ⟨lw_p28, List.forall_mem_cons.mpr ⟨lw_p29, List.forall_mem_cons.mpr ⟨lw_p30, List.forall_mem_cons.mpr ⟨lw_p31, fun _ h => absurd h List.not_mem_nil⟩⟩⟩⟩⟩⟩⟩⟩⟩⟩⟩⟩⟩⟩⟩⟩
theorem lw_p32 : lw_okq (⟨"TideTableModel", "streamAt", "(III)I"⟩, 39) := ⟨⟨by decide +kernel, by decide +kernel⟩, List.mem_of_getElem? (i := 546) (by decide +kernel), List.mem_of_getElem? (i := 845) (by decide +kernel), List.mem_of_getElem? (i := 846) (by decide +kernel)⟩
theorem lw_p33 : lw_okq (⟨"TideTableModel", "slackNow", "(III)I"⟩, 39) := ⟨⟨by decide +kernel, by decide +kernel⟩, List.mem_of_getElem? (i := 546) (by decide +kernel), List.mem_of_getElem? (i := 853) (by decide +kernel), List.mem_of_getElem? (i := 854) (by decide +kernel)⟩
theorem lw_p34 : lw_okq (⟨"TideTableModel", "tripNow", "(IIII)I"⟩, 39) := ⟨⟨by decide +kernel, by decide +kernel⟩, List.mem_of_getElem? (i := 546) (by decide +kernel), List.mem_of_getElem? (i := 864) (by decide +kernel), List.mem_of_getElem? (i := 865) (by decide +kernel)⟩
theorem lw_p35 : lw_okq (⟨"TideTableModel", "leaveNow", "(IIIII)I"⟩, 39) := ⟨⟨by decide +kernel, by decide +kernel⟩, List.mem_of_getElem? (i := 546) (by decide +kernel), List.mem_of_getElem? (i := 872) (by decide +kernel), List.mem_of_getElem? (i := 873) (by decide +kernel)⟩
theorem lw_p36 : lw_okq (⟨"TideTableModel", "drawnNow", "(III)I"⟩, 39) := ⟨⟨by decide +kernel, by decide +kernel⟩, List.mem_of_getElem? (i := 546) (by decide +kernel), List.mem_of_getElem? (i := 915) (by decide +kernel), List.mem_of_getElem? (i := 916) (by decide +kernel)⟩
theorem lw_p37 : lw_okq (⟨"TideTableModel", "draw", "(I)I"⟩, 39) := ⟨⟨by decide +kernel, by decide +kernel⟩, List.mem_of_getElem? (i := 546) (by decide +kernel), List.mem_of_getElem? (i := 919) (by decide +kernel), List.mem_of_getElem? (i := 920) (by decide +kernel)⟩
theorem lw_p38 : lw_okq (⟨"TideTableModel", "howMany", "(I)I"⟩, 39) := ⟨⟨by decide +kernel, by decide +kernel⟩, List.mem_of_getElem? (i := 546) (by decide +kernel), List.mem_of_getElem? (i := 939) (by decide +kernel), List.mem_of_getElem? (i := 940) (by decide +kernel)⟩
theorem lw_p39 : lw_okq (⟨"TideTableModel", "ofPorts", "(I)I"⟩, 39) := ⟨⟨by decide +kernel, by decide +kernel⟩, List.mem_of_getElem? (i := 546) (by decide +kernel), List.mem_of_getElem? (i := 943) (by decide +kernel), List.mem_of_getElem? (i := 944) (by decide +kernel)⟩
theorem lw_p40 : lw_okq (⟨"TideTableModel", "greatest", "()I"⟩, 39) := ⟨⟨by decide +kernel, by decide +kernel⟩, List.mem_of_getElem? (i := 546) (by decide +kernel), List.mem_of_getElem? (i := 947) (by decide +kernel), List.mem_of_getElem? (i := 948) (by decide +kernel)⟩
theorem lw_p41 : lw_okq (⟨"TideTableModel", "mix", "(J)V"⟩, 39) := ⟨⟨by decide +kernel, by decide +kernel⟩, List.mem_of_getElem? (i := 546) (by decide +kernel), List.mem_of_getElem? (i := 957) (by decide +kernel), List.mem_of_getElem? (i := 958) (by decide +kernel)⟩
def lw_privs_3 : List (MethodName × Nat) := [(⟨"TideTableModel", "streamAt", "(III)I"⟩, 39), (⟨"TideTableModel", "slackNow", "(III)I"⟩, 39), (⟨"TideTableModel", "tripNow", "(IIII)I"⟩, 39), (⟨"TideTableModel", "leaveNow", "(IIIII)I"⟩, 39), (⟨"TideTableModel", "drawnNow", "(III)I"⟩, 39), (⟨"TideTableModel", "draw", "(I)I"⟩, 39), (⟨"TideTableModel", "howMany", "(I)I"⟩, 39), (⟨"TideTableModel", "ofPorts", "(I)I"⟩, 39), (⟨"TideTableModel", "greatest", "()I"⟩, 39), (⟨"TideTableModel", "mix", "(J)V"⟩, 39)]
theorem lw_r3 : ∀ q ∈ lw_privs_3, lw_okq q := List.forall_mem_cons.mpr ⟨lw_p32, List.forall_mem_cons.mpr ⟨lw_p33, List.forall_mem_cons.mpr ⟨lw_p34, List.forall_mem_cons.mpr ⟨lw_p35, List.forall_mem_cons.mpr ⟨lw_p36, List.forall_mem_cons.mpr ⟨lw_p37, List.forall_mem_cons.mpr ⟨lw_p38, List.forall_mem_cons.mpr ⟨lw_p39, List.forall_mem_cons.mpr ⟨lw_p40, List.forall_mem_cons.mpr ⟨lw_p41, fun _ h => absurd h List.not_mem_nil⟩⟩⟩⟩⟩⟩⟩⟩⟩⟩
def lw_privs : List (MethodName × Nat) := lw_privs_1 ++ (lw_privs_2 ++ (lw_privs_3))
def lw_tbl : List Cond := k2_sels lw_privs ++ tables_1
theorem lw_privs_ok : ∀ q ∈ lw_privs, lw_okq q := by
  show ∀ q ∈ lw_privs_1 ++ (lw_privs_2 ++ (lw_privs_3)), lw_okq q
  exact List.forall_mem_append.mpr ⟨lw_r1, List.forall_mem_append.mpr ⟨lw_r2, lw_r3⟩⟩
-- ===== end of PART A; then your names; then what follows =====
def tt_good : List Cond := lw_tbl.filter goodWord

theorem tt_glen : tt_good.length = 951 := by decide +kernel
end
section
/-! the classes, by program out of the claim's names -/
def R_Pg : String := "TideTable$Page"
def F_Pg : u_T := fun k => match k with
  | 0 => ("TideTable$Page", "codes", "[I", true)
  | 1 => ("TideTable$Page", "many", "I", false)
  | 2 => ("TideTable$Page", "start", "I", false)
  | _ => ("TideTable$Page", "number", "I", false)
def t_Pg : Nat → FieldType := fun k => match k with
  | 0 => .array .int
  | 1 => .int
  | 2 => .int
  | _ => .int
theorem n_Pg : ∀ a, a < 4 → ∀ b, b < 4 → a ≠ b → (F_Pg a).2.1 ≠ (F_Pg b).2.1 := by decide +kernel
theorem t_Pg_ok : ∀ k, k < 4 → parseFieldDescriptor (F_Pg k).2.2.1 = some (t_Pg k) := by decide +kernel
theorem i_Pg : ∀ w ∈ u_ws R_Pg F_Pg 4, w ∈ tt_good := by decide +kernel
def R_Po : String := "TideTable$Port"
def F_Po : u_T := fun k => match k with
  | 0 => ("TideTable$Port", "kind", "I", false)
  | 1 => ("TideTable$Port", "mean", "I", false)
  | 2 => ("TideTable$Port", "mark", "I", false)
  | 3 => ("TideTable$Port", "ratio", "I", false)
  | 4 => ("TideTable$Port", "sorts", "I", false)
  | 5 => ("TideTable$Port", "waves", "[LTideTable$Wave;", true)
  | _ => ("TideTable$Port", "many", "I", false)
def t_Po : Nat → FieldType := fun k => match k with
  | 0 => .int
  | 1 => .int
  | 2 => .int
  | 3 => .int
  | 4 => .int
  | 5 => .array (.object "TideTable$Wave")
  | _ => .int
theorem n_Po : ∀ a, a < 7 → ∀ b, b < 7 → a ≠ b → (F_Po a).2.1 ≠ (F_Po b).2.1 := by decide +kernel
theorem t_Po_ok : ∀ k, k < 7 → parseFieldDescriptor (F_Po k).2.2.1 = some (t_Po k) := by decide +kernel
theorem i_Po : ∀ w ∈ u_ws R_Po F_Po 7, w ∈ tt_good := by decide +kernel
def R_Se : String := "TideTable$Sea"
def F_Se : u_T := fun k => match k with
  | 0 => ("TideTable$Sea", "harbours", "[LTideTable$Port;", true)
  | 1 => ("TideTable$Sea", "many", "I", false)
  | _ => ("TideTable$Sea", "seen", "I", false)
def t_Se : Nat → FieldType := fun k => match k with
  | 0 => .array (.object "TideTable$Port")
  | 1 => .int
  | _ => .int
theorem n_Se : ∀ a, a < 3 → ∀ b, b < 3 → a ≠ b → (F_Se a).2.1 ≠ (F_Se b).2.1 := by decide +kernel
theorem t_Se_ok : ∀ k, k < 3 → parseFieldDescriptor (F_Se k).2.2.1 = some (t_Se k) := by decide +kernel
theorem i_Se : ∀ w ∈ u_ws R_Se F_Se 3, w ∈ tt_good := by decide +kernel
def R_Wa : String := "TideTable$Wave"
def F_Wa : u_T := fun k => match k with
  | 0 => ("TideTable$Wave", "speed", "I", false)
  | 1 => ("TideTable$Wave", "size", "I", false)
  | _ => ("TideTable$Wave", "start", "I", false)
def t_Wa : Nat → FieldType := fun k => match k with
  | 0 => .int
  | 1 => .int
  | _ => .int
theorem n_Wa : ∀ a, a < 3 → ∀ b, b < 3 → a ≠ b → (F_Wa a).2.1 ≠ (F_Wa b).2.1 := by decide +kernel
theorem t_Wa_ok : ∀ k, k < 3 → parseFieldDescriptor (F_Wa k).2.2.1 = some (t_Wa k) := by decide +kernel
theorem i_Wa : ∀ w ∈ u_ws R_Wa F_Wa 3, w ∈ tt_good := by decide +kernel
def R_Tt : String := "TideTable"
def F_Tt : u_T := fun k => match k with
  | 0 => ("TideTable", "page", "LTideTable$Page;", true)
  | 1 => ("TideTable", "sea", "LTideTable$Sea;", true)
  | 2 => ("TideTable", "kept", "LTideTable$Sea;", true)
  | 3 => ("TideTable", "isKept", "Z", false)
  | 4 => ("TideTable", "readings", "I", false)
  | 5 => ("TideTable", "row", "[I", true)
  | _ => ("TideTable", "otherRow", "[I", true)
def t_Tt : Nat → FieldType := fun k => match k with
  | 0 => .object "TideTable$Page"
  | 1 => .object "TideTable$Sea"
  | 2 => .object "TideTable$Sea"
  | 3 => .boolean
  | 4 => .int
  | 5 => .array .int
  | _ => .array .int
theorem n_Tt : ∀ a, a < 7 → ∀ b, b < 7 → a ≠ b → (F_Tt a).2.1 ≠ (F_Tt b).2.1 := by decide +kernel
theorem t_Tt_ok : ∀ k, k < 7 → parseFieldDescriptor (F_Tt k).2.2.1 = some (t_Tt k) := by decide +kernel
theorem i_Tt : ∀ w ∈ u_ws R_Tt F_Tt 7, w ∈ tt_good := by decide +kernel
def R_Mo : String := "TideTableModel"
def F_Mo : u_T := fun k => match k with
  | 0 => ("TideTableModel", "reads", "I", false)
  | 1 => ("TideTableModel", "ports", "I", false)
  | 2 => ("TideTableModel", "kindOf", "[I", true)
  | 3 => ("TideTableModel", "mean", "[I", true)
  | 4 => ("TideTableModel", "mark", "[I", true)
  | 5 => ("TideTableModel", "ratio", "[I", true)
  | 6 => ("TideTableModel", "waves", "[I", true)
  | 7 => ("TideTableModel", "wave", "[I", true)
  | 8 => ("TideTableModel", "rounds", "[I", true)
  | 9 => ("TideTableModel", "seen", "I", false)
  | 10 => ("TideTableModel", "seenPort", "[I", true)
  | 11 => ("TideTableModel", "seenWhat", "[I", true)
  | 12 => ("TideTableModel", "seenCould", "[I", true)
  | 13 => ("TideTableModel", "pageLength", "I", false)
  | 14 => ("TideTableModel", "page", "[B", true)
  | 15 => ("TideTableModel", "isWhole", "Z", false)
  | 16 => ("TideTableModel", "isBroken", "Z", false)
  | 17 => ("TideTableModel", "newPorts", "I", false)
  | 18 => ("TideTableModel", "newKind", "[I", true)
  | 19 => ("TideTableModel", "newMean", "[I", true)
  | 20 => ("TideTableModel", "newMark", "[I", true)
  | 21 => ("TideTableModel", "newRatio", "[I", true)
  | 22 => ("TideTableModel", "newWaves", "[I", true)
  | 23 => ("TideTableModel", "newWave", "[I", true)
  | 24 => ("TideTableModel", "number", "I", false)
  | 25 => ("TideTableModel", "seedNow", "J", false)
  | 26 => ("TideTableModel", "isKept", "Z", false)
  | 27 => ("TideTableModel", "keptReads", "I", false)
  | 28 => ("TideTableModel", "keptSeen", "I", false)
  | 29 => ("TideTableModel", "keptKind", "[I", true)
  | 30 => ("TideTableModel", "keptMean", "[I", true)
  | 31 => ("TideTableModel", "keptMark", "[I", true)
  | 32 => ("TideTableModel", "keptRatio", "[I", true)
  | 33 => ("TideTableModel", "keptWaves", "[I", true)
  | 34 => ("TideTableModel", "keptWave", "[I", true)
  | 35 => ("TideTableModel", "keptPort", "[I", true)
  | 36 => ("TideTableModel", "keptWhat", "[I", true)
  | 37 => ("TideTableModel", "keptCould", "[I", true)
  | _ => ("TideTableModel", "h", "J", false)
def t_Mo : Nat → FieldType := fun k => match k with
  | 0 => .int
  | 1 => .int
  | 2 => .array .int
  | 3 => .array .int
  | 4 => .array .int
  | 5 => .array .int
  | 6 => .array .int
  | 7 => .array .int
  | 8 => .array .int
  | 9 => .int
  | 10 => .array .int
  | 11 => .array .int
  | 12 => .array .int
  | 13 => .int
  | 14 => .array .byte
  | 15 => .boolean
  | 16 => .boolean
  | 17 => .int
  | 18 => .array .int
  | 19 => .array .int
  | 20 => .array .int
  | 21 => .array .int
  | 22 => .array .int
  | 23 => .array .int
  | 24 => .int
  | 25 => .long
  | 26 => .boolean
  | 27 => .int
  | 28 => .int
  | 29 => .array .int
  | 30 => .array .int
  | 31 => .array .int
  | 32 => .array .int
  | 33 => .array .int
  | 34 => .array .int
  | 35 => .array .int
  | 36 => .array .int
  | 37 => .array .int
  | _ => .long
theorem n_Mo : ∀ a, a < 39 → ∀ b, b < 39 → a ≠ b → (F_Mo a).2.1 ≠ (F_Mo b).2.1 := by decide +kernel
theorem t_Mo_ok : ∀ k, k < 39 → parseFieldDescriptor (F_Mo k).2.2.1 = some (t_Mo k) := by decide +kernel
theorem i_Mo : ∀ w ∈ u_ws R_Mo F_Mo 39, w ∈ tt_good := by decide +kernel
abbrev tt_cl : List vw_C := [(R_Pg, F_Pg, 4), (R_Po, F_Po, 7), (R_Se, F_Se, 3), (R_Wa, F_Wa, 3), (R_Tt, F_Tt, 7), (R_Mo, F_Mo, 39)]
def tt_kd (ci f : Nat) : Nat := (([[1, 0, 0, 0], [0, 0, 0, 0, 0, 1, 0], [1, 0, 0], [0, 0, 0], [1, 1, 1, 0, 0, 1, 1], [0, 0, 1, 1, 1, 1, 1, 1, 1, 0, 1, 1, 1, 0, 1, 0, 0, 0, 1, 1, 1, 1, 1, 1, 0, 2, 0, 0, 0, 1, 1, 1, 1, 1, 1, 1, 1, 1, 2]] : List (List Nat)).getD ci []).getD f 9
def tt_nf (ci : Nat) : Nat := ([4, 7, 3, 3, 7, 39] : List Nat).getD ci 0
def tt_ci (k : Nat) : Nat := ([4, 0, 9, 2, 2, 9, 9, 9, 9, 1, 1, 1, 1, 1, 1, 1, 1, 9, 9, 9, 9, 9, 9, 9, 9, 3, 3, 3, 3, 3, 3, 3, 3, 3, 3, 3, 3, 3, 3, 3, 3, 3, 3, 3, 3, 3, 3, 3, 3, 5, 9, 9, 9, 9, 9, 9, 9, 9, 9, 9, 9, 9, 9, 9, 9, 9, 9, 9, 9, 9, 9, 9, 9, 9, 9, 9] : List Nat).getD k 9
def tt_len (k : Nat) : Nat := ([0, 0, 96, 0, 0, 4, 4, 344, 344, 0, 0, 0, 0, 0, 0, 0, 0, 3, 3, 3, 3, 3, 3, 3, 3, 0, 0, 0, 0, 0, 0, 0, 0, 0, 0, 0, 0, 0, 0, 0, 0, 0, 0, 0, 0, 0, 0, 0, 0, 0, 4, 4, 4, 4, 4, 36, 65, 6, 6, 6, 96, 4, 4, 4, 4, 4, 36, 4, 4, 4, 4, 4, 36, 6, 6, 6] : List Nat).getD k 0
def tt_mR (f : Nat) : Nat := ([0, 0, 50, 51, 52, 53, 54, 55, 56, 0, 57, 58, 59, 0, 60, 0, 0, 0, 61, 62, 63, 64, 65, 66, 0, 0, 0, 0, 0, 67, 68, 69, 70, 71, 72, 73, 74, 75, 0] : List Nat).getD f 0
def tt_R (k f : Nat) : Nat := if k = 49 then tt_mR f else if 9 ≤ k then k + 8 else if k = 0 then ([1, 3, 4, 0, 0, 7, 8] : List Nat).getD f 0 else if k = 1 then 2 else k + 2
def tt_RA (k j : Nat) : Nat := if k = 5 then 9 + j else if k = 6 then 13 + j else 25 + 3 * (k - 17) + j
def tt_at (k : Nat) : Nat := if k = 60 then 1 else if k = 5 then 2 else if k = 6 then 2 else if 17 ≤ k ∧ k < 25 then 3 else 0
/-- the state: ints of the objects' fields, longs of them, ints of the arrays -/
abbrev tt_St : Type := (Nat → Nat → Int32) × (Nat → Nat → Int64) × (Nat → Nat → Int32)
def tt_I (st : tt_St) (o f : Nat) : Int32 := st.1 o f
def tt_L (st : tt_St) (o f : Nat) : Int64 := st.2.1 o f
def tt_A (st : tt_St) (a j : Nat) : Int32 := st.2.2 a j
def tt_pI (st : tt_St) (o f : Nat) (v : Int32) : tt_St := (fun o' f' => if o' = o ∧ f' = f then v else st.1 o' f', st.2.1, st.2.2)
def tt_pL (st : tt_St) (o f : Nat) (v : Int64) : tt_St := (st.1, fun o' f' => if o' = o ∧ f' = f then v else st.2.1 o' f', st.2.2)
def tt_pA (st : tt_St) (a j : Nat) (v : Int32) : tt_St := (st.1, st.2.1, fun a' j' => if a' = a ∧ j' = j then v else st.2.2 a' j')
/-- the world's constants: classes and slots, where each cell lies, the arrays' classes, where the constants lie -/
abbrev tt_G : Type := va_G × (Nat → Nat) × (Nat → ClassId) × (Nat → Nat)
def tt_ad (G : tt_G) (k : Nat) : Nat := G.2.1 k
def tt_cA (G : tt_G) (k : Nat) : ClassId := G.2.2.1 k
def tt_sa (G : tt_G) (k : Nat) : Nat := G.2.2.2 k
def tt_tys (G : tt_G) : List (ClassId × FieldType) := [(tt_cA G 0, .int), (tt_cA G 1, .byte), (tt_cA G 2, .object "TideTable$Port"), (tt_cA G 3, .object "TideTable$Wave")]
def tt_fv (G : tt_G) (st : tt_St) (k f : Nat) : Value := if tt_kd (tt_ci k) f = 0 then .int (tt_I st k f) else if tt_kd (tt_ci k) f = 1 then .ref (tt_ad G (tt_R k f)) else .long (tt_L st k f)
def tt_fs (G : tt_G) (st : tt_St) (k : Nat) : List Value := (List.range (tt_nf (tt_ci k))).map (tt_fv G st k)
def tt_E (G : tt_G) (st : tt_St) (k : Nat) : va_E :=
  if tt_ci k < 6 then .inr (tt_ci k, tt_fs G st k) else if tt_at k ≤ 1 then .inl (tt_cA G (tt_at k), tt_len k, .inl (tt_A st k)) else .inl (tt_cA G (tt_at k), tt_len k, .inr (.inr (.inr (.inr (fun j => some (tt_ad G (tt_RA k j)))))))
def tt_ws (G : tt_G) (st : tt_St) : va_W := (List.range 76).map (fun k => (tt_ad G k, tt_E G st k))
def tt_Ad (G : tt_G) : Nat → Prop := fun q => ∃ k, k < 76 ∧ q = tt_ad G k
def tt_J (G : tt_G) : Prop := ∀ i j, i < 76 → j < 76 → tt_ad G i = tt_ad G j → i = j
theorem tt_ws_get (G : tt_G) (st : tt_St) {k : Nat} (h : k < 76) : (tt_ws G st)[k]? = some (tt_ad G k, tt_E G st k) := by
  rw [tt_ws, List.getElem?_map, List.getElem?_range h]; rfl
theorem tt_ws_lt {G : tt_G} {st : tt_St} {k : Nat} {q : Nat × va_E} (h : (tt_ws G st)[k]? = some q) : k < 76 ∧ q = (tt_ad G k, tt_E G st k) := by
  have h1 := (List.getElem?_eq_some_iff.mp h).1
  have h2 : k < 76 := by simpa [tt_ws] using h1
  rw [tt_ws_get G st h2] at h
  exact ⟨h2, (Option.some.inj h).symm⟩
theorem tt_ws_set {G : tt_G} {st st' : tt_St} {k : Nat} (h : k < 76) (ho : ∀ j, j ≠ k → tt_E G st' j = tt_E G st j) : (tt_ws G st).set k (tt_ad G k, tt_E G st' k) = tt_ws G st' := by
  apply List.ext_getElem?
  intro i
  have hl : (tt_ws G st).length = 76 := by simp [tt_ws]
  by_cases hi : i < 76
  · rw [tt_ws_get G st' hi, List.getElem?_set]
    by_cases hk : k = i
    · subst hk
      rw [if_pos rfl, if_pos (by rw [hl]; exact h)]
    · rw [if_neg hk, tt_ws_get G st hi, ho i (fun q => hk q.symm)]
  · rw [List.getElem?_eq_none (by rw [List.length_set, hl]; omega), List.getElem?_eq_none (by simp [tt_ws]; omega)]
theorem tt_D {G : tt_G} (hJ : tt_J G) (st : tt_St) : va_D (tt_Ad G) (tt_ws G st) := by
  refine ⟨fun i j p q hi hj hpq => ?_, fun k q hk => ?_⟩
  · obtain ⟨a1, a2⟩ := tt_ws_lt hi
    obtain ⟨b1, b2⟩ := tt_ws_lt hj
    rw [a2, b2] at hpq
    exact hJ i j a1 b1 hpq
  · obtain ⟨a1, a2⟩ := tt_ws_lt hk
    rw [a2]
    exact ⟨k, a1, rfl⟩
theorem tt_ci_lt {k : Nat} (h : tt_ci k < 6) : k < 76 := by
  rcases Nat.lt_or_ge k 76 with q | q
  · exact q
  · unfold tt_ci at h
    rw [List.getD_eq_getElem?_getD, List.getElem?_eq_none (by exact q)] at h
    simp at h
theorem tt_E_obj {G : tt_G} {st : tt_St} {k : Nat} (h : tt_ci k < 6) : tt_E G st k = .inr (tt_ci k, tt_fs G st k) := by rw [tt_E, if_pos h]
theorem tt_fs_get {G : tt_G} {st : tt_St} {k f : Nat} (h : f < tt_nf (tt_ci k)) : (tt_fs G st k)[f]? = some (tt_fv G st k f) := by
  rw [tt_fs, List.getElem?_map, List.getElem?_range h]; rfl
theorem tt_fs_len {G : tt_G} {st : tt_St} {k : Nat} : (tt_fs G st k).length = tt_nf (tt_ci k) := by simp [tt_fs]
theorem tt_E_pI {G : tt_G} {st : tt_St} {k f j : Nat} {v : Int32} (h : j ≠ k) : tt_E G (tt_pI st k f v) j = tt_E G st j := by
  have h1 : tt_fs G (tt_pI st k f v) j = tt_fs G st j := by
    unfold tt_fs
    congr 1
    funext f'
    simp [tt_fv, tt_I, tt_L, tt_pI, h]
  unfold tt_E
  rw [h1]
  rfl
theorem tt_E_pL {G : tt_G} {st : tt_St} {k f j : Nat} {v : Int64} (h : j ≠ k) : tt_E G (tt_pL st k f v) j = tt_E G st j := by
  have h1 : tt_fs G (tt_pL st k f v) j = tt_fs G st j := by
    unfold tt_fs
    congr 1
    funext f'
    simp [tt_fv, tt_I, tt_L, tt_pL, h]
  unfold tt_E
  rw [h1]
  rfl
theorem tt_E_pA {G : tt_G} {st : tt_St} {k i j : Nat} {v : Int32} (h : j ≠ k) : tt_E G (tt_pA st k i v) j = tt_E G st j := by
  have h1 : tt_A (tt_pA st k i v) j = tt_A st j := by
    funext j'
    simp [tt_A, tt_pA, h]
  unfold tt_E
  rw [h1]
  rfl
theorem tt_fs_pI {G : tt_G} {st : tt_St} {k f : Nat} {v : Int32} (hk : tt_kd (tt_ci k) f = 0) : tt_fs G (tt_pI st k f v) k = (tt_fs G st k).set f (.int v) := by
  apply List.ext_getElem?
  intro i
  by_cases hi : i < tt_nf (tt_ci k)
  · rw [tt_fs_get hi, List.getElem?_set]
    by_cases hf : f = i
    · subst hf
      rw [if_pos rfl, if_pos (by rw [tt_fs_len]; exact hi)]
      simp [tt_fv, hk, tt_I, tt_pI]
    · rw [if_neg hf, tt_fs_get hi]
      have : ¬ i = f := fun q => hf q.symm
      simp [tt_fv, tt_I, tt_L, tt_pI, this]
  · rw [List.getElem?_eq_none (by rw [tt_fs_len]; omega), List.getElem?_eq_none (by rw [List.length_set, tt_fs_len]; omega)]
theorem tt_fs_pL {G : tt_G} {st : tt_St} {k f : Nat} {v : Int64} (hk : tt_kd (tt_ci k) f = 2) : tt_fs G (tt_pL st k f v) k = (tt_fs G st k).set f (.long v) := by
  apply List.ext_getElem?
  intro i
  by_cases hi : i < tt_nf (tt_ci k)
  · rw [tt_fs_get hi, List.getElem?_set]
    by_cases hf : f = i
    · subst hf
      rw [if_pos rfl, if_pos (by rw [tt_fs_len]; exact hi)]
      simp [tt_fv, hk, tt_L, tt_pL]
    · rw [if_neg hf, tt_fs_get hi]
      have : ¬ i = f := fun q => hf q.symm
      simp [tt_fv, tt_I, tt_L, tt_pL, this]
  · rw [List.getElem?_eq_none (by rw [tt_fs_len]; omega), List.getElem?_eq_none (by rw [List.length_set, tt_fs_len]; omega)]
theorem tt_A_pA {st : tt_St} {k i : Nat} {v : Int32} : tt_A (tt_pA st k i v) k = upd (tt_A st k) i v := by
  funext j
  simp [tt_A, tt_pA, upd]
end
section
/-! what holds of the constants that lie outside the world: static arrays, the text "psbft", the nest's links -/
def tt_qv (j : Nat) : Int32 := ([1000, 995, 981, 957, 924, 882, 831, 773, 707, 634, 556, 471, 383, 290, 195, 98, 0] : List Int32).getD j 0
def tt_cv (j : Nat) : Int32 := ([6, 4, 8, 16] : List Int32).getD j 0
def tt_dv (j : Nat) : Int32 := ([0, 7, 50, 144, 400, 1439] : List Int32).getD j 0
def tt_kv (j : Nat) : Int32 := ([112, 115, 98, 102, 116] : List Int32).getD j 0
def tt_sv (j i : Nat) : Int32 := if j = 0 then tt_qv i else if j = 1 then tt_cv i else tt_dv i
def tt_sn (j : Nat) : Nat := ([17, 4, 6] : List Nat).getD j 0
def tt_sN (j : Nat) : String := (["QUARTER", "COULD", "DIGEST_TICKS"] : List String).getD j ""
def tt_nest : List Cond := [.methodLinkNest "TideTable" 11 ⟨"TideTable$Page", "<init>", "()V"⟩ "TideTable", .methodLinkNest "TideTable$Port" 21 ⟨"TideTable$Wave", "<init>", "()V"⟩ "TideTable", .methodLinkNest "TideTable$Page" 40 ⟨"TideTable", "within", "(III)Z"⟩ "TideTable", .methodLinkNest "TideTable$Wave" 19 ⟨"TideTable", "roundAt", "(I)I"⟩ "TideTable"]
theorem tt_nest_shape : ∀ w ∈ tt_nest, ∃ a i x h, w = Cond.methodLinkNest a i x h := by
  intro w hw
  simp only [tt_nest, List.mem_cons, List.not_mem_nil, or_false] at hw
  rcases hw with h | h | h | h <;> exact ⟨_, _, _, _, h⟩
def tt_SxH (G : tt_G) (U : State) (H : Heap) : Prop :=
  (∀ j, j < 3 → va_Z "TideTable" (tt_sN j) "[I" (.ref (tt_sa G j)) (tt_Ad G) U H ∧ va_T .int (tt_sa G j) (tt_sn j) (fun i => .int (tt_sv j i)) (tt_Ad G) U H) ∧
  va_Z "java/lang/String" "COMPACT_STRINGS" "Z" (.int 1) (tt_Ad G) U H ∧
  (∀ w ∈ tt_nest, va_Nw w U) ∧ vk_R "TideTable$Page" 44 "psbft" (tt_sa G 3) U ∧ vk_S 1 [5] [[112, 115, 98, 102, 116]] (fun _ => tt_sa G 3) (fun _ => tt_sa G 4) (tt_Ad G) U H
def tt_Sx (G : tt_G) (U : State) : Prop := tt_SxH G U U.heap
theorem tt_Sx.go {G : tt_G} {s U : State} {H : Heap} {locs : List Loc} (h : tt_Sx G s) (hS : va_S (tt_Ad G) s.heap H locs) (hU : U.heap = H) (hW : s.WarmedH U.vm) : tt_Sx G U := by
  obtain ⟨h1, h2, h3, h4, h5⟩ := h
  have hq : ∀ a : Nat, a < s.heap.size → ¬ tt_Ad G a → U.heap[a]? = s.heap[a]? := fun a x y => by rw [hU]; exact hS.2.1 a x y
  refine ⟨fun j hj => ⟨((h1 j hj).1.kept hq).moved hW.alike, ((h1 j hj).2.kept hq).moved hW.alike⟩, (h2.kept hq).moved hW.alike, fun w hw => ?_, h4.warm hW, (h5.kept hq).moved hW.alike⟩
  obtain ⟨a, i, x, h, rfl⟩ := tt_nest_shape w hw
  exact va_Nw.warmM hW (h3 _ hw)
theorem tt_Sx.blind {G : tt_G} {U : State} (g : JFrame) (mk : MethodId) (a : Array Value) (h : tt_Sx G U) : tt_Sx G (U.calling g mk a) := by
  obtain ⟨h1, h2, h3, h4, h5⟩ := h
  have hv : (U.calling g mk a).vm = U.vm := rfl
  refine ⟨fun j hj => ⟨(h1 j hj).1.moved (Vm.Alike.refl U.vm), (h1 j hj).2.moved (Vm.Alike.refl U.vm)⟩, h2.moved (Vm.Alike.refl U.vm), fun w hw => ?_, h4.same hv, h5.moved (Vm.Alike.refl U.vm)⟩
  obtain ⟨b, i, x, h, rfl⟩ := tt_nest_shape w hw
  exact va_Nw.same rfl hv.symm (h3 _ hw)
/-! contracts -/
def tt_Pc (G : tt_G) (av : List Value) (st : tt_St) : Array Value → State → Prop := va_Pc av (fun U => va_P G.1 tt_cl (tt_ws G st) U.heap ∧ va_K G.1 tt_cl (tt_tys G) U ∧ tt_Sx G U ∧ tt_J G)
def tt_Q (G : tt_G) (rv : Option Value) (st' : tt_St) : Array Value → State → Outcome → State → Prop := fun _ s0 oc t => oc = .returned rv ∧ va_P G.1 tt_cl (tt_ws G st') t.heap ∧ va_F (tt_Ad G) s0 t
def tt_rm (fr lo : Nat) : Room := { frames := fr, cells := 0, slots := 0, locals := lo }
def tt_C (y : MethodName) (cc : ByteArray) (nL : Nat) (ret : Option FieldType) (fr lo : Nat) (G : tt_G) (av : List Value) (st : tt_St) (rv : Option Value) (st' : tt_St) : Prop :=
  ∀ l : Launch, Met l y (.code y cc nL ret :: tt_good) (tt_rm fr lo) (tt_Pc G av st) (tt_Q G rv st') 0 0 (tt_Ad G)
theorem tt_blind {G : tt_G} {av : List Value} {st : tt_St} : FrameBlind (tt_Pc G av st) := by
  intro a U g mk h
  obtain ⟨h0, h1, h2, h3, h4⟩ := h
  exact ⟨h0, h1, va_K.moved (u := U) (U := U.calling g mk a) (Vm.Alike.refl U.vm) h2, h3.blind g mk a, h4⟩
/-! the judgement -/
abbrev tt_X (α : Type) : Type := Program × Launch × Env × Room × State × MethodId × Array Value × List Frame × Method × Code × (Nat × Nat × Nat) × (Option Value × tt_St → State → Prop) × (α → Option Value × tt_St)
section TX
variable {α : Type}
abbrev tt_xp (κ : tt_X α) : Program := κ.1
abbrev tt_xl (κ : tt_X α) : Launch := κ.2.1
abbrev tt_xe (κ : tt_X α) : Env := κ.2.2.1
abbrev tt_xR (κ : tt_X α) : Room := κ.2.2.2.1
abbrev tt_xs (κ : tt_X α) : State := κ.2.2.2.2.1
abbrev tt_xm (κ : tt_X α) : MethodId := κ.2.2.2.2.2.1
abbrev tt_xa (κ : tt_X α) : Array Value := κ.2.2.2.2.2.2.1
abbrev tt_xb (κ : tt_X α) : List Frame := κ.2.2.2.2.2.2.2.1
abbrev tt_xM (κ : tt_X α) : Method := κ.2.2.2.2.2.2.2.2.1
abbrev tt_xc (κ : tt_X α) : Code := κ.2.2.2.2.2.2.2.2.2.1
abbrev tt_xn (κ : tt_X α) : Nat := κ.2.2.2.2.2.2.2.2.2.2.1.1
abbrev tt_xC (κ : tt_X α) : Nat := κ.2.2.2.2.2.2.2.2.2.2.1.2.1
abbrev tt_xS (κ : tt_X α) : Nat := κ.2.2.2.2.2.2.2.2.2.2.1.2.2
abbrev tt_xQ (κ : tt_X α) : Option Value × tt_St → State → Prop := κ.2.2.2.2.2.2.2.2.2.2.2.1
abbrev tt_xk (κ : tt_X α) : α → Option Value × tt_St := κ.2.2.2.2.2.2.2.2.2.2.2.2
abbrev tt_W (κ : tt_X α) (T : α) (H : Heap) (locs : List Loc) (g : JFrame) : Prop := W (tt_xp κ) (tt_xl κ) (tt_xe κ) (tt_xR κ) (tt_xs κ) (tt_xm κ) (tt_xa κ) (tt_xb κ) (tt_xM κ) (tt_xc κ) H locs (tt_xC κ) (tt_xS κ) (tt_xQ κ (tt_xk κ T)) g
/-- from pc, with these locals and this stack, in this state, the method comes to the result T -/
def tt_V (G : tt_G) (κ : tt_X α) (T : α) (st : tt_St) (pc : Nat) (lv : List (Nat × Value)) (stk : List Value) : Prop :=
  ∀ (H : Heap) (locs : List Loc) (ls : Array Slot), va_P G.1 tt_cl (tt_ws G st) H → va_S (tt_Ad G) (tt_xs κ).heap H locs → lv_has ls (tt_xn κ) lv → tt_W κ T H locs (F0 (tt_xm κ) pc ls stk)
def tt_Cx (G : tt_G) (κ : tt_X α) (cc : ByteArray) (own : String) (nL fr lo : Nat) : Prop :=
  (tt_xp κ).tables.exec = Jvm.exec ∧ (tt_xc κ).code = cc ∧ (tt_xc κ).maxLocals = nL ∧ tt_xn κ = nL ∧ (tt_xs κ).vm.findClass own = some (tt_xm κ).cls ∧ (∀ w ∈ tt_good, w.before (tt_xa κ) (tt_xs κ) = true) ∧ va_K G.1 tt_cl (tt_tys G) (tt_xs κ) ∧ tt_J G ∧ tt_Sx G (tt_xs κ) ∧ fr ≤ (tt_xR κ).frames ∧ lo ≤ (tt_xR κ).locals ∧ tt_xC κ ≤ (tt_xR κ).cells ∧ tt_xS κ ≤ (tt_xR κ).slots
def tt_Rt (G : tt_G) (κ : tt_X α) (ret : Option FieldType) (mk : α → Option Value × tt_St) : Prop :=
  (tt_xM κ).sig.returnType = ret ∧ (tt_xM κ).locks = false ∧ tt_xk κ = mk ∧ tt_xQ κ = fun r => MQ (tt_xb κ) (tt_Q G r.1 r.2) (tt_xa κ) (tt_xs κ) (tt_xC κ) (tt_xS κ) (tt_Ad G)
theorem tt_enter {y : MethodName} {cc : ByteArray} {nL : Nat} {ret : Option FieldType} {fr lo : Nat} {G : tt_G} {av : List Value} {st : tt_St} {mk : α → Option Value × tt_St} {T : α}
    (hy : plainName y.cls = true) (hlen : (lg_sl av).length ≤ nL) (body : ∀ κ : tt_X α, tt_Cx G κ cc y.cls nL fr lo → tt_Rt G κ ret mk → tt_V G κ T st 0 (lv_args 0 av) []) :
    tt_C y cc nL ret fr lo G av st (mk T).1 (mk T).2 := by
  intro l
  refine Met.ofW (cc := cc) (maxL := nL) (ret := ret) hy rfl ?_
  intro p e s m args below meth c s₁ B hml hv
  obtain ⟨rfl, hP, hK, hSx, hJ⟩ := hv
  have hts := atoms_spec (ws := .code y cc nL ret :: tt_good) B.pre
  have hown : s.vm.findClass y.cls = some m.cls := findClass_of_methodNamed B.named
  have hl := lv_entry av (n := nL) hlen
  rw [lg_entry_eq]
  have hb := body (p, l, e, tt_rm fr lo, s, m, av.toArray, below, meth, c, (nL, 0, 0), (fun r => MQ below (tt_Q G r.1 r.2) av.toArray s 0 0 (tt_Ad G)), mk)
    ⟨B.exec, B.bytes, hml, rfl, hown, fun w hw => hts w (List.mem_cons_of_mem _ hw), hK, hJ, hSx, Nat.le_refl _, Nat.le_refl _, Nat.zero_le _, Nat.zero_le _⟩
    ⟨B.returns, B.notSynchronized, rfl, rfl⟩
  exact hb s.heap [] _ hP va_S.rf hl
theorem tt_goodIn {y : MethodName} {cc : ByteArray} {nL : Nat} {ret : Option FieldType} (h : Cond.code y cc nL ret ∈ tt_good) : GoodIn tt_good (.code y cc nL ret :: tt_good) := by
  have hg : ∀ w ∈ tt_good, w ∈ tt_good ∧ ((w.onTables && w.keeps) = true ∨ ∃ ty, w = .arrayClass ty) := fun w hw => ⟨hw, good_of_word (List.mem_filter.mp hw).2⟩
  intro w hw
  rcases List.mem_cons.mp hw with e | e
  · exact hg w (e ▸ h)
  · exact hg w e
/-! calls -/
def tt_Mw (y : MethodName) (cc : ByteArray) (nL : Nat) (ret : Option FieldType) (n : Nat) : Prop := Cond.code y cc nL ret ∈ tt_good ∧ Cond.initialized y.cls ∈ tt_good ∧ (y.cls ≠ "java/lang/invoke/MethodHandle" ∧ y.cls ≠ "java/lang/invoke/VarHandle" ∧ (parseMethodDescriptor y.desc).map (fun d => d.parameters.length) = some n)
theorem tt_go {G : tt_G} {κ : tt_X α} {T : α} {st' : tt_St} {pc : Nat} {lv : List (Nat × Value)} {stk rest : List Value} {H : Heap} {locs : List Loc} {ls : Array Slot} {rv : Option Value} {a : Array Value}
    (hr : va_Run (tt_xp κ) (tt_xl κ) (tt_xe κ) (tt_xR κ) (tt_xs κ) (tt_xm κ) (tt_xa κ) (tt_xb κ) (tt_xM κ) (tt_xc κ) H locs (tt_xC κ) (tt_xS κ) 0 0 (F0 (tt_xm κ) pc ls stk) rest (tt_Q G rv st' a) (tt_Ad G)) (hS : va_S (tt_Ad G) (tt_xs κ).heap H locs) (hl : lv_has ls (tt_xn κ) lv)
    (k : tt_V G κ T st' (pc + 3) lv (rv.toList ++ rest)) : tt_W κ T H locs (F0 (tt_xm κ) pc ls stk) := by
  intro U hU X
  obtain ⟨v, st₀, t, T', L, h0, X', hL, e1, e2, ⟨hv, hb, hz, hk⟩, go⟩ := hr U hU X
  cases hv
  rw [h0] at hz hk
  have hS' : va_S (tt_Ad G) (tt_xs κ).heap T'.heap (locs ++ L) := ⟨Nat.le_trans hS.1 (by rw [e1]; exact hz), fun q h1 h2 => by rw [e1, hk q (Nat.lt_of_lt_of_le h1 hS.1) h2]; exact hS.2.1 q h1 h2, fun q hq => by
      rcases List.mem_append.mp hq with h | h
      · exact hS.2.2 q h
      · exact hL q h⟩
  obtain ⟨t2, a1, b1⟩ := k T'.heap (locs ++ L) ls (by rw [e1]; exact hb) hS' hl T' rfl X'
  exact ⟨t2, go t2 a1, b1⟩
theorem r_callS {G : tt_G} {κ : tt_X α} {T : α} {st st' : tt_St} {pc : Nat} {lv : List (Nat × Value)} {av rest stk : List Value} {cc cc' : ByteArray} {own : String} {nL fr lo : Nat} {y : MethodName} {nL' fr' lo' n index : Nat} {ret' : Option FieldType} {rv : Option Value}
    (hC : tt_Cx G κ cc own nL fr lo) (hd : decode cc pc = .ok (.invokestatic index, 3)) (hM : tt_C y cc' nL' ret' fr' lo' G av st rv st') (hw : tt_Mw y cc' nL' ret' n) (hs : Cond.static y ∈ tt_good) (hm : Cond.methodLink own index y ∈ tt_good) (hn : av.length = n) (hk : av.reverse ++ rest = stk) (hroom : (Nat.ble (fr' + 1) fr && Nat.ble (8 + (nL' + 11) + lo') lo) = true) (hcat : (rest.map fun v => v.category).sum ≤ 8)
    (k : tt_V G κ T st' (pc + 3) lv (rv.toList ++ rest)) : tt_V G κ T st pc lv stk := by
  obtain ⟨hx, hb, hml, hnL, hown, hts, hK, hJ, hSx, q1, q2, q3, q4⟩ := hC
  rw [Bool.and_eq_true] at hroom
  have hroom1 := Nat.le_of_ble_eq_true hroom.1
  have hroom2 := Nat.le_of_ble_eq_true hroom.2
  intro H locs ls hP hS hl
  refine tt_go (va_runS (As := av) (rest := rest) ⟨hx, hb, hml, hown, hts⟩ (hM (tt_xl κ)) ⟨callB_of n hts (tt_goodIn hw.1) rfl rfl rfl (hts _ hw.2.1) (hts _ hm) hw.2.2 ⟨Nat.le_trans hroom1 q1, Nat.le_trans hroom2 q2⟩, hts _ hs⟩ ⟨tt_blind, fun U hU hW => ⟨rfl, by rw [hU]; exact hP, va_K.moved hW.alike hK, hSx.go hS hU hW, hJ⟩⟩ rfl hn (by rw [← hnL]; exact hl.1) hk.symm (lv_room hcat) hd ⟨q3, q4⟩) hS hl k
theorem r_callSN {G : tt_G} {κ : tt_X α} {T : α} {st st' : tt_St} {pc : Nat} {lv : List (Nat × Value)} {av rest stk : List Value} {cc cc' : ByteArray} {own host : String} {nL fr lo : Nat} {y : MethodName} {nL' fr' lo' n index : Nat} {ret' : Option FieldType} {rv : Option Value}
    (hC : tt_Cx G κ cc own nL fr lo) (hd : decode cc pc = .ok (.invokestatic index, 3)) (hM : tt_C y cc' nL' ret' fr' lo' G av st rv st') (hw : tt_Mw y cc' nL' ret' n) (hs : Cond.static y ∈ tt_good) (hm : Cond.methodLinkNest own index y host ∈ tt_nest) (hn : av.length = n) (hk : av.reverse ++ rest = stk) (hroom : (Nat.ble (fr' + 1) fr && Nat.ble (8 + (nL' + 11) + lo') lo) = true) (hcat : (rest.map fun v => v.category).sum ≤ 8)
    (k : tt_V G κ T st' (pc + 3) lv (rv.toList ++ rest)) : tt_V G κ T st pc lv stk := by
  obtain ⟨hx, hb, hml, hnL, hown, hts, hK, hJ, hSx, q1, q2, q3, q4⟩ := hC
  rw [Bool.and_eq_true] at hroom
  have hroom1 := Nat.le_of_ble_eq_true hroom.1
  have hroom2 := Nat.le_of_ble_eq_true hroom.2
  intro H locs ls hP hS hl
  refine tt_go (va_runSN (As := av) (rest := rest) ⟨hx, hb, hml, hown, hts⟩ (hM (tt_xl κ)) ⟨va_cnB n hts (tt_goodIn hw.1) rfl rfl rfl (hSx.2.2.1 _ hm) (hts _ hw.2.1) hw.2.2 ⟨Nat.le_trans hroom1 q1, Nat.le_trans hroom2 q2⟩, hts _ hs, trivial⟩ ⟨tt_blind, fun U hU hW => ⟨rfl, by rw [hU]; exact hP, va_K.moved hW.alike hK, hSx.go hS hU hW, hJ⟩⟩ rfl hn (by rw [← hnL]; exact hl.1) hk.symm (lv_room hcat) hd ⟨q3, q4⟩) hS hl k
theorem r_callV {G : tt_G} {κ : tt_X α} {T : α} {st st' : tt_St} {pc : Nat} {lv : List (Nat × Value)} {av rest stk : List Value} {cc cc' : ByteArray} {own C : String} {nL fr lo : Nat} {y : MethodName} {nL' fr' lo' n index o ci : Nat} {ret' : Option FieldType} {rv : Option Value} {F : u_T} {N : Nat}
    (hC : tt_Cx G κ cc own nL fr lo) (hd : decode cc pc = .ok (.invokevirtual index, 3)) (hM : tt_C y cc' nL' ret' fr' lo' G (.ref (tt_ad G o) :: av) st rv st') (hw : tt_Mw y cc' nL' ret' n) (hi : Cond.instanceMethod y ∈ tt_good) (hse : Cond.selects C y y ∈ tt_good) (hm : Cond.methodLink own index y ∈ tt_good) (ho : tt_ci o = ci) (hci : tt_cl[ci]? = some (C, F, N)) (hn : av.length = n) (hk : av.reverse ++ .ref (tt_ad G o) :: rest = stk) (hroom : (Nat.ble (fr' + 1) fr && Nat.ble (8 + (nL' + 11) + lo') lo) = true) (hcat : (rest.map fun v => v.category).sum ≤ 8)
    (k : tt_V G κ T st' (pc + 3) lv (rv.toList ++ rest)) : tt_V G κ T st pc lv stk := by
  obtain ⟨hx, hb, hml, hnL, hown, hts, hK, hJ, hSx, q1, q2, q3, q4⟩ := hC
  rw [Bool.and_eq_true] at hroom
  have hroom1 := Nat.le_of_ble_eq_true hroom.1
  have hroom2 := Nat.le_of_ble_eq_true hroom.2
  have hlt : tt_ci o < 6 := by rw [ho]; exact (List.getElem?_eq_some_iff.mp hci).1
  have hE := tt_ws_get G st (tt_ci_lt hlt)
  rw [tt_E_obj hlt, ho] at hE
  intro H locs ls hP hS hl
  refine tt_go (va_runV (As := av) (rest := rest) (C := C) ⟨hx, hb, hml, hown, hts⟩ (hM (tt_xl κ)) ⟨callB_of n hts (tt_goodIn hw.1) rfl rfl rfl (hts _ hw.2.1) (hts _ hm) hw.2.2 ⟨Nat.le_trans hroom1 q1, Nat.le_trans hroom2 q2⟩, hts _ hi, hts _ hse⟩ ⟨tt_blind, va_recv hK hP hci hE, fun U hU hW => ⟨rfl, by rw [hU]; exact hP, va_K.moved hW.alike hK, hSx.go hS hU hW, hJ⟩⟩ rfl hn (by rw [← hnL]; exact hl.1) hk.symm (lv_room hcat) hd ⟨q3, q4⟩) hS hl k
end TX
end
section
section TR
variable {α : Type} {G : tt_G} {κ : tt_X α} {T : α} {st : tt_St} {pc : Nat} {lv : List (Nat × Value)} {rest : List Value} {cc : ByteArray} {own : String} {nL fr lo : Nat}
theorem r_iconst {n : Int} {v : Int32} (hC : tt_Cx G κ cc own nL fr lo) (hd : decode cc pc = .ok (.iconst n, 1)) (hv : Int32.ofInt n = v) (k : tt_V G κ T st (pc + 1) lv (.int v :: rest)) : tt_V G κ T st pc lv (rest) := by
  obtain ⟨hx, hb, hml, hnL, hown, hts, hK, hJ, hSx, q1, q2, q3, q4⟩ := hC; intro H locs ls hP hS hl
  exact lv_iconst hx hb hd hv (k H locs ls hP hS hl)
theorem r_bipush {n : Int} {v : Int32} (hC : tt_Cx G κ cc own nL fr lo) (hd : decode cc pc = .ok (.bipush n, 2)) (hv : (Int8.ofInt n).toInt32 = v) (k : tt_V G κ T st (pc + 2) lv (.int v :: rest)) : tt_V G κ T st pc lv (rest) := by
  obtain ⟨hx, hb, hml, hnL, hown, hts, hK, hJ, hSx, q1, q2, q3, q4⟩ := hC; intro H locs ls hP hS hl
  exact lv_bipush hx hb hd hv (k H locs ls hP hS hl)
theorem r_sipush {n : Int} {v : Int32} (hC : tt_Cx G κ cc own nL fr lo) (hd : decode cc pc = .ok (.sipush n, 3)) (hv : (Int16.ofInt n).toInt32 = v) (k : tt_V G κ T st (pc + 3) lv (.int v :: rest)) : tt_V G κ T st pc lv (rest) := by
  obtain ⟨hx, hb, hml, hnL, hown, hts, hK, hJ, hSx, q1, q2, q3, q4⟩ := hC; intro H locs ls hP hS hl
  exact lv_sipush hx hb hd hv (k H locs ls hP hS hl)
theorem r_iadd {x y : Int32} (hC : tt_Cx G κ cc own nL fr lo) (hd : decode cc pc = .ok (.iadd, 1)) (k : tt_V G κ T st (pc + 1) lv (.int (x + y) :: rest)) : tt_V G κ T st pc lv (.int y :: .int x :: rest) := by
  obtain ⟨hx, hb, hml, hnL, hown, hts, hK, hJ, hSx, q1, q2, q3, q4⟩ := hC; intro H locs ls hP hS hl
  exact lv_iadd hx hb hd (k H locs ls hP hS hl)
theorem r_isub {x y : Int32} (hC : tt_Cx G κ cc own nL fr lo) (hd : decode cc pc = .ok (.isub, 1)) (k : tt_V G κ T st (pc + 1) lv (.int (x - y) :: rest)) : tt_V G κ T st pc lv (.int y :: .int x :: rest) := by
  obtain ⟨hx, hb, hml, hnL, hown, hts, hK, hJ, hSx, q1, q2, q3, q4⟩ := hC; intro H locs ls hP hS hl
  exact lv_isub hx hb hd (k H locs ls hP hS hl)
theorem r_imul {x y : Int32} (hC : tt_Cx G κ cc own nL fr lo) (hd : decode cc pc = .ok (.imul, 1)) (k : tt_V G κ T st (pc + 1) lv (.int (x * y) :: rest)) : tt_V G κ T st pc lv (.int y :: .int x :: rest) := by
  obtain ⟨hx, hb, hml, hnL, hown, hts, hK, hJ, hSx, q1, q2, q3, q4⟩ := hC; intro H locs ls hP hS hl
  exact lv_imul hx hb hd (k H locs ls hP hS hl)
theorem r_iand {x y : Int32} (hC : tt_Cx G κ cc own nL fr lo) (hd : decode cc pc = .ok (.iand, 1)) (k : tt_V G κ T st (pc + 1) lv (.int (x &&& y) :: rest)) : tt_V G κ T st pc lv (.int y :: .int x :: rest) := by
  obtain ⟨hx, hb, hml, hnL, hown, hts, hK, hJ, hSx, q1, q2, q3, q4⟩ := hC; intro H locs ls hP hS hl
  exact lv_iand hx hb hd (k H locs ls hP hS hl)
theorem r_ior {x y : Int32} (hC : tt_Cx G κ cc own nL fr lo) (hd : decode cc pc = .ok (.ior, 1)) (k : tt_V G κ T st (pc + 1) lv (.int (x ||| y) :: rest)) : tt_V G κ T st pc lv (.int y :: .int x :: rest) := by
  obtain ⟨hx, hb, hml, hnL, hown, hts, hK, hJ, hSx, q1, q2, q3, q4⟩ := hC; intro H locs ls hP hS hl
  exact lv_ior hx hb hd (k H locs ls hP hS hl)
theorem r_ixor {x y : Int32} (hC : tt_Cx G κ cc own nL fr lo) (hd : decode cc pc = .ok (.ixor, 1)) (k : tt_V G κ T st (pc + 1) lv (.int (x ^^^ y) :: rest)) : tt_V G κ T st pc lv (.int y :: .int x :: rest) := by
  obtain ⟨hx, hb, hml, hnL, hown, hts, hK, hJ, hSx, q1, q2, q3, q4⟩ := hC; intro H locs ls hP hS hl
  exact lv_ixor hx hb hd (k H locs ls hP hS hl)
theorem r_ineg {x : Int32} (hC : tt_Cx G κ cc own nL fr lo) (hd : decode cc pc = .ok (.ineg, 1)) (k : tt_V G κ T st (pc + 1) lv (.int (-x) :: rest)) : tt_V G κ T st pc lv (.int x :: rest) := by
  obtain ⟨hx, hb, hml, hnL, hown, hts, hK, hJ, hSx, q1, q2, q3, q4⟩ := hC; intro H locs ls hP hS hl
  exact lv_ineg hx hb hd (k H locs ls hP hS hl)
theorem r_ishl {x y : Int32} (hC : tt_Cx G κ cc own nL fr lo) (hd : decode cc pc = .ok (.ishl, 1)) (k : tt_V G κ T st (pc + 1) lv (.int (x <<< (y &&& 31)) :: rest)) : tt_V G κ T st pc lv (.int y :: .int x :: rest) := by
  obtain ⟨hx, hb, hml, hnL, hown, hts, hK, hJ, hSx, q1, q2, q3, q4⟩ := hC; intro H locs ls hP hS hl
  exact lv_ishl hx hb hd (k H locs ls hP hS hl)
theorem r_ishr {x y : Int32} (hC : tt_Cx G κ cc own nL fr lo) (hd : decode cc pc = .ok (.ishr, 1)) (k : tt_V G κ T st (pc + 1) lv (.int (x >>> (y &&& 31)) :: rest)) : tt_V G κ T st pc lv (.int y :: .int x :: rest) := by
  obtain ⟨hx, hb, hml, hnL, hown, hts, hK, hJ, hSx, q1, q2, q3, q4⟩ := hC; intro H locs ls hP hS hl
  exact lv_ishr hx hb hd (k H locs ls hP hS hl)
theorem r_iushr {x y : Int32} (hC : tt_Cx G κ cc own nL fr lo) (hd : decode cc pc = .ok (.iushr, 1)) (k : tt_V G κ T st (pc + 1) lv (.int ((x.toUInt32 >>> (y.toUInt32 &&& Int32.toUInt32 31)).toInt32) :: rest)) : tt_V G κ T st pc lv (.int y :: .int x :: rest) := by
  obtain ⟨hx, hb, hml, hnL, hown, hts, hK, hJ, hSx, q1, q2, q3, q4⟩ := hC; intro H locs ls hP hS hl
  exact lv_iushr hx hb hd rfl (k H locs ls hP hS hl)
theorem r_idiv {x y : Int32} (hC : tt_Cx G κ cc own nL fr lo) (hd : decode cc pc = .ok (.idiv, 1)) (hne : ¬ y = 0) (k : tt_V G κ T st (pc + 1) lv (.int (x / y) :: rest)) : tt_V G κ T st pc lv (.int y :: .int x :: rest) := by
  obtain ⟨hx, hb, hml, hnL, hown, hts, hK, hJ, hSx, q1, q2, q3, q4⟩ := hC; intro H locs ls hP hS hl
  exact lv_idiv hx hb hd hne (k H locs ls hP hS hl)
theorem r_irem {x y : Int32} (hC : tt_Cx G κ cc own nL fr lo) (hd : decode cc pc = .ok (.irem, 1)) (hne : ¬ y = 0) (k : tt_V G κ T st (pc + 1) lv (.int (x - x / y * y) :: rest)) : tt_V G κ T st pc lv (.int y :: .int x :: rest) := by
  obtain ⟨hx, hb, hml, hnL, hown, hts, hK, hJ, hSx, q1, q2, q3, q4⟩ := hC; intro H locs ls hP hS hl
  exact lv_irem hx hb hd hne (k H locs ls hP hS hl)
theorem r_ladd {x y : Int64} (hC : tt_Cx G κ cc own nL fr lo) (hd : decode cc pc = .ok (.ladd, 1)) (k : tt_V G κ T st (pc + 1) lv (.long (x + y) :: rest)) : tt_V G κ T st pc lv (.long y :: .long x :: rest) := by
  obtain ⟨hx, hb, hml, hnL, hown, hts, hK, hJ, hSx, q1, q2, q3, q4⟩ := hC; intro H locs ls hP hS hl
  exact lv_ladd hx hb hd (k H locs ls hP hS hl)
theorem r_lmul {x y : Int64} (hC : tt_Cx G κ cc own nL fr lo) (hd : decode cc pc = .ok (.lmul, 1)) (k : tt_V G κ T st (pc + 1) lv (.long (x * y) :: rest)) : tt_V G κ T st pc lv (.long y :: .long x :: rest) := by
  obtain ⟨hx, hb, hml, hnL, hown, hts, hK, hJ, hSx, q1, q2, q3, q4⟩ := hC; intro H locs ls hP hS hl
  exact lv_lmul hx hb hd (k H locs ls hP hS hl)
theorem r_land {x y : Int64} (hC : tt_Cx G κ cc own nL fr lo) (hd : decode cc pc = .ok (.land, 1)) (k : tt_V G κ T st (pc + 1) lv (.long (x &&& y) :: rest)) : tt_V G κ T st pc lv (.long y :: .long x :: rest) := by
  obtain ⟨hx, hb, hml, hnL, hown, hts, hK, hJ, hSx, q1, q2, q3, q4⟩ := hC; intro H locs ls hP hS hl
  exact lv_land hx hb hd (k H locs ls hP hS hl)
theorem r_ldiv {x y : Int64} (hC : tt_Cx G κ cc own nL fr lo) (hd : decode cc pc = .ok (.ldiv, 1)) (hne : ¬ y = 0) (k : tt_V G κ T st (pc + 1) lv (.long (x / y) :: rest)) : tt_V G κ T st pc lv (.long y :: .long x :: rest) := by
  obtain ⟨hx, hb, hml, hnL, hown, hts, hK, hJ, hSx, q1, q2, q3, q4⟩ := hC; intro H locs ls hP hS hl
  exact lv_ldiv hx hb hd hne (k H locs ls hP hS hl)
theorem r_lrem {x y : Int64} (hC : tt_Cx G κ cc own nL fr lo) (hd : decode cc pc = .ok (.lrem, 1)) (hne : ¬ y = 0) (k : tt_V G κ T st (pc + 1) lv (.long (x - x / y * y) :: rest)) : tt_V G κ T st pc lv (.long y :: .long x :: rest) := by
  obtain ⟨hx, hb, hml, hnL, hown, hts, hK, hJ, hSx, q1, q2, q3, q4⟩ := hC; intro H locs ls hP hS hl
  exact lv_lrem hx hb hd hne (k H locs ls hP hS hl)
theorem r_i2l {x : Int32} (hC : tt_Cx G κ cc own nL fr lo) (hd : decode cc pc = .ok (.i2l, 1)) (k : tt_V G κ T st (pc + 1) lv (.long x.toInt64 :: rest)) : tt_V G κ T st pc lv (.int x :: rest) := by
  obtain ⟨hx, hb, hml, hnL, hown, hts, hK, hJ, hSx, q1, q2, q3, q4⟩ := hC; intro H locs ls hP hS hl
  exact lv_i2l hx hb hd rfl (k H locs ls hP hS hl)
theorem r_l2i {x : Int64} (hC : tt_Cx G κ cc own nL fr lo) (hd : decode cc pc = .ok (.l2i, 1)) (k : tt_V G κ T st (pc + 1) lv (.int x.toInt32 :: rest)) : tt_V G κ T st pc lv (.long x :: rest) := by
  obtain ⟨hx, hb, hml, hnL, hown, hts, hK, hJ, hSx, q1, q2, q3, q4⟩ := hC; intro H locs ls hP hS hl
  exact lv_l2i hx hb hd rfl (k H locs ls hP hS hl)
theorem r_i2b {x : Int32} (hC : tt_Cx G κ cc own nL fr lo) (hd : decode cc pc = .ok (.i2b, 1)) (k : tt_V G κ T st (pc + 1) lv (.int x.toInt8.toInt32 :: rest)) : tt_V G κ T st pc lv (.int x :: rest) := by
  obtain ⟨hx, hb, hml, hnL, hown, hts, hK, hJ, hSx, q1, q2, q3, q4⟩ := hC; intro H locs ls hP hS hl
  exact lv_i2b hx hb hd rfl (k H locs ls hP hS hl)
theorem r_i2c {x : Int32} (hC : tt_Cx G κ cc own nL fr lo) (hd : decode cc pc = .ok (.i2c, 1)) (k : tt_V G κ T st (pc + 1) lv (.int (x.toUInt32 % 65536).toInt32 :: rest)) : tt_V G κ T st pc lv (.int x :: rest) := by
  obtain ⟨hx, hb, hml, hnL, hown, hts, hK, hJ, hSx, q1, q2, q3, q4⟩ := hC; intro H locs ls hP hS hl
  exact lv_i2c hx hb hd rfl (k H locs ls hP hS hl)
theorem r_dup {va : Value} (hC : tt_Cx G κ cc own nL fr lo) (hd : decode cc pc = .ok (.dup, 1)) (hva : va.category = 1) (k : tt_V G κ T st (pc + 1) lv (va :: va :: rest)) : tt_V G κ T st pc lv (va :: rest) := by
  obtain ⟨hx, hb, hml, hnL, hown, hts, hK, hJ, hSx, q1, q2, q3, q4⟩ := hC; intro H locs ls hP hS hl
  exact lv_dup hx hb hd hva (k H locs ls hP hS hl)
theorem r_dup2 {va vb : Value} (hC : tt_Cx G κ cc own nL fr lo) (hd : decode cc pc = .ok (.dup2, 1)) (hva : va.category = 1) (hvb : vb.category = 1) (k : tt_V G κ T st (pc + 1) lv (va :: vb :: va :: vb :: rest)) : tt_V G κ T st pc lv (va :: vb :: rest) := by
  obtain ⟨hx, hb, hml, hnL, hown, hts, hK, hJ, hSx, q1, q2, q3, q4⟩ := hC; intro H locs ls hP hS hl
  exact lv_dup2_11 hx hb hd hva hvb (k H locs ls hP hS hl)
theorem r_pop {va : Value} (hC : tt_Cx G κ cc own nL fr lo) (hd : decode cc pc = .ok (.pop, 1)) (hva : va.category = 1) (k : tt_V G κ T st (pc + 1) lv (rest)) : tt_V G κ T st pc lv (va :: rest) := by
  obtain ⟨hx, hb, hml, hnL, hown, hts, hK, hJ, hSx, q1, q2, q3, q4⟩ := hC; intro H locs ls hP hS hl
  exact lv_pop hx hb hd hva (k H locs ls hP hS hl)
theorem r_goto {off : Int} {tgt : Nat} (hC : tt_Cx G κ cc own nL fr lo) (hd : decode cc pc = .ok (.goto off, 3)) (ht : (pc : Int) + off = (tgt : Int)) (k : tt_V G κ T st tgt lv rest) : tt_V G κ T st pc lv rest := by
  obtain ⟨hx, hb, hml, hnL, hown, hts, hK, hJ, hSx, q1, q2, q3, q4⟩ := hC; intro H locs ls hP hS hl
  exact lv_goto hx hb hd ht (k H locs ls hP hS hl)
theorem r_if_eq {x : Int32} {off : Int} {tgt : Nat} {T1 T2 : α} (hC : tt_Cx G κ cc own nL fr lo) (hd : decode cc pc = .ok (.ifCond .eq off, 3)) (ht : (pc : Int) + off = (tgt : Int)) (kt : x = 0 → tt_V G κ T1 st tgt lv rest) (kf : ¬ x = 0 → tt_V G κ T2 st (pc + 3) lv rest) : tt_V G κ (if x = 0 then T1 else T2) st pc lv (.int x :: rest) := by
  obtain ⟨hx, hb, hml, hnL, hown, hts, hK, hJ, hSx, q1, q2, q3, q4⟩ := hC; intro H locs ls hP hS hl
  by_cases hc : x = 0
  · rw [if_pos hc]; exact lv_if_eq hx hb hd ht (fun c => kt c H locs ls hP hS hl) (fun c => absurd hc c)
  · rw [if_neg hc]; exact lv_if_eq hx hb hd ht (fun c => absurd c hc) (fun c => kf c H locs ls hP hS hl)
theorem j_if_eq {x : Int32} {off : Int} {tgt : Nat} (hC : tt_Cx G κ cc own nL fr lo) (hd : decode cc pc = .ok (.ifCond .eq off, 3)) (ht : (pc : Int) + off = (tgt : Int)) (kt : x = 0 → tt_V G κ T st tgt lv rest) (kf : ¬ x = 0 → tt_V G κ T st (pc + 3) lv rest) : tt_V G κ T st pc lv (.int x :: rest) := by
  obtain ⟨hx, hb, hml, hnL, hown, hts, hK, hJ, hSx, q1, q2, q3, q4⟩ := hC; intro H locs ls hP hS hl
  exact lv_if_eq hx hb hd ht (fun c => kt c H locs ls hP hS hl) (fun c => kf c H locs ls hP hS hl)
theorem t_if_eq {x : Int32} {off : Int} {tgt : Nat} (hC : tt_Cx G κ cc own nL fr lo) (hd : decode cc pc = .ok (.ifCond .eq off, 3)) (ht : (pc : Int) + off = (tgt : Int)) (h : x = 0) (k : tt_V G κ T st tgt lv rest) : tt_V G κ T st pc lv (.int x :: rest) := j_if_eq hC hd ht (fun _ => k) (fun c => absurd h c)
theorem f_if_eq {x : Int32} {off : Int} {tgt : Nat} (hC : tt_Cx G κ cc own nL fr lo) (hd : decode cc pc = .ok (.ifCond .eq off, 3)) (ht : (pc : Int) + off = (tgt : Int)) (h : ¬ x = 0) (k : tt_V G κ T st (pc + 3) lv rest) : tt_V G κ T st pc lv (.int x :: rest) := j_if_eq hC hd ht (fun c => absurd c h) (fun _ => k)
theorem r_if_ne {x : Int32} {off : Int} {tgt : Nat} {T1 T2 : α} (hC : tt_Cx G κ cc own nL fr lo) (hd : decode cc pc = .ok (.ifCond .ne off, 3)) (ht : (pc : Int) + off = (tgt : Int)) (kt : ¬ x = 0 → tt_V G κ T2 st tgt lv rest) (kf : x = 0 → tt_V G κ T1 st (pc + 3) lv rest) : tt_V G κ (if x = 0 then T1 else T2) st pc lv (.int x :: rest) := by
  obtain ⟨hx, hb, hml, hnL, hown, hts, hK, hJ, hSx, q1, q2, q3, q4⟩ := hC; intro H locs ls hP hS hl
  by_cases hc : x = 0
  · rw [if_pos hc]; exact lv_if_ne hx hb hd ht (fun c => absurd hc c) (fun c => kf c H locs ls hP hS hl)
  · rw [if_neg hc]; exact lv_if_ne hx hb hd ht (fun c => kt c H locs ls hP hS hl) (fun c => absurd c hc)
theorem j_if_ne {x : Int32} {off : Int} {tgt : Nat} (hC : tt_Cx G κ cc own nL fr lo) (hd : decode cc pc = .ok (.ifCond .ne off, 3)) (ht : (pc : Int) + off = (tgt : Int)) (kt : ¬ x = 0 → tt_V G κ T st tgt lv rest) (kf : x = 0 → tt_V G κ T st (pc + 3) lv rest) : tt_V G κ T st pc lv (.int x :: rest) := by
  obtain ⟨hx, hb, hml, hnL, hown, hts, hK, hJ, hSx, q1, q2, q3, q4⟩ := hC; intro H locs ls hP hS hl
  exact lv_if_ne hx hb hd ht (fun c => kt c H locs ls hP hS hl) (fun c => kf c H locs ls hP hS hl)
theorem t_if_ne {x : Int32} {off : Int} {tgt : Nat} (hC : tt_Cx G κ cc own nL fr lo) (hd : decode cc pc = .ok (.ifCond .ne off, 3)) (ht : (pc : Int) + off = (tgt : Int)) (h : ¬ x = 0) (k : tt_V G κ T st tgt lv rest) : tt_V G κ T st pc lv (.int x :: rest) := j_if_ne hC hd ht (fun _ => k) (fun c => absurd c h)
theorem f_if_ne {x : Int32} {off : Int} {tgt : Nat} (hC : tt_Cx G κ cc own nL fr lo) (hd : decode cc pc = .ok (.ifCond .ne off, 3)) (ht : (pc : Int) + off = (tgt : Int)) (h : x = 0) (k : tt_V G κ T st (pc + 3) lv rest) : tt_V G κ T st pc lv (.int x :: rest) := j_if_ne hC hd ht (fun c => absurd h c) (fun _ => k)
theorem r_if_lt {x : Int32} {off : Int} {tgt : Nat} {T1 T2 : α} (hC : tt_Cx G κ cc own nL fr lo) (hd : decode cc pc = .ok (.ifCond .lt off, 3)) (ht : (pc : Int) + off = (tgt : Int)) (kt : x < 0 → tt_V G κ T1 st tgt lv rest) (kf : ¬ x < 0 → tt_V G κ T2 st (pc + 3) lv rest) : tt_V G κ (if x < 0 then T1 else T2) st pc lv (.int x :: rest) := by
  obtain ⟨hx, hb, hml, hnL, hown, hts, hK, hJ, hSx, q1, q2, q3, q4⟩ := hC; intro H locs ls hP hS hl
  by_cases hc : x < 0
  · rw [if_pos hc]; exact lv_if_lt hx hb hd ht (fun c => kt c H locs ls hP hS hl) (fun c => absurd hc c)
  · rw [if_neg hc]; exact lv_if_lt hx hb hd ht (fun c => absurd c hc) (fun c => kf c H locs ls hP hS hl)
theorem j_if_lt {x : Int32} {off : Int} {tgt : Nat} (hC : tt_Cx G κ cc own nL fr lo) (hd : decode cc pc = .ok (.ifCond .lt off, 3)) (ht : (pc : Int) + off = (tgt : Int)) (kt : x < 0 → tt_V G κ T st tgt lv rest) (kf : ¬ x < 0 → tt_V G κ T st (pc + 3) lv rest) : tt_V G κ T st pc lv (.int x :: rest) := by
  obtain ⟨hx, hb, hml, hnL, hown, hts, hK, hJ, hSx, q1, q2, q3, q4⟩ := hC; intro H locs ls hP hS hl
  exact lv_if_lt hx hb hd ht (fun c => kt c H locs ls hP hS hl) (fun c => kf c H locs ls hP hS hl)
theorem t_if_lt {x : Int32} {off : Int} {tgt : Nat} (hC : tt_Cx G κ cc own nL fr lo) (hd : decode cc pc = .ok (.ifCond .lt off, 3)) (ht : (pc : Int) + off = (tgt : Int)) (h : x < 0) (k : tt_V G κ T st tgt lv rest) : tt_V G κ T st pc lv (.int x :: rest) := j_if_lt hC hd ht (fun _ => k) (fun c => absurd h c)
theorem f_if_lt {x : Int32} {off : Int} {tgt : Nat} (hC : tt_Cx G κ cc own nL fr lo) (hd : decode cc pc = .ok (.ifCond .lt off, 3)) (ht : (pc : Int) + off = (tgt : Int)) (h : ¬ x < 0) (k : tt_V G κ T st (pc + 3) lv rest) : tt_V G κ T st pc lv (.int x :: rest) := j_if_lt hC hd ht (fun c => absurd c h) (fun _ => k)
theorem r_if_ge {x : Int32} {off : Int} {tgt : Nat} {T1 T2 : α} (hC : tt_Cx G κ cc own nL fr lo) (hd : decode cc pc = .ok (.ifCond .ge off, 3)) (ht : (pc : Int) + off = (tgt : Int)) (kt : 0 ≤ x → tt_V G κ T1 st tgt lv rest) (kf : ¬ 0 ≤ x → tt_V G κ T2 st (pc + 3) lv rest) : tt_V G κ (if 0 ≤ x then T1 else T2) st pc lv (.int x :: rest) := by
  obtain ⟨hx, hb, hml, hnL, hown, hts, hK, hJ, hSx, q1, q2, q3, q4⟩ := hC; intro H locs ls hP hS hl
  by_cases hc : 0 ≤ x
  · rw [if_pos hc]; exact lv_if_ge hx hb hd ht (fun c => kt c H locs ls hP hS hl) (fun c => absurd hc c)
  · rw [if_neg hc]; exact lv_if_ge hx hb hd ht (fun c => absurd c hc) (fun c => kf c H locs ls hP hS hl)
theorem j_if_ge {x : Int32} {off : Int} {tgt : Nat} (hC : tt_Cx G κ cc own nL fr lo) (hd : decode cc pc = .ok (.ifCond .ge off, 3)) (ht : (pc : Int) + off = (tgt : Int)) (kt : 0 ≤ x → tt_V G κ T st tgt lv rest) (kf : ¬ 0 ≤ x → tt_V G κ T st (pc + 3) lv rest) : tt_V G κ T st pc lv (.int x :: rest) := by
  obtain ⟨hx, hb, hml, hnL, hown, hts, hK, hJ, hSx, q1, q2, q3, q4⟩ := hC; intro H locs ls hP hS hl
  exact lv_if_ge hx hb hd ht (fun c => kt c H locs ls hP hS hl) (fun c => kf c H locs ls hP hS hl)
theorem t_if_ge {x : Int32} {off : Int} {tgt : Nat} (hC : tt_Cx G κ cc own nL fr lo) (hd : decode cc pc = .ok (.ifCond .ge off, 3)) (ht : (pc : Int) + off = (tgt : Int)) (h : 0 ≤ x) (k : tt_V G κ T st tgt lv rest) : tt_V G κ T st pc lv (.int x :: rest) := j_if_ge hC hd ht (fun _ => k) (fun c => absurd h c)
theorem f_if_ge {x : Int32} {off : Int} {tgt : Nat} (hC : tt_Cx G κ cc own nL fr lo) (hd : decode cc pc = .ok (.ifCond .ge off, 3)) (ht : (pc : Int) + off = (tgt : Int)) (h : ¬ 0 ≤ x) (k : tt_V G κ T st (pc + 3) lv rest) : tt_V G κ T st pc lv (.int x :: rest) := j_if_ge hC hd ht (fun c => absurd c h) (fun _ => k)
theorem r_if_gt {x : Int32} {off : Int} {tgt : Nat} {T1 T2 : α} (hC : tt_Cx G κ cc own nL fr lo) (hd : decode cc pc = .ok (.ifCond .gt off, 3)) (ht : (pc : Int) + off = (tgt : Int)) (kt : 0 < x → tt_V G κ T1 st tgt lv rest) (kf : ¬ 0 < x → tt_V G κ T2 st (pc + 3) lv rest) : tt_V G κ (if 0 < x then T1 else T2) st pc lv (.int x :: rest) := by
  obtain ⟨hx, hb, hml, hnL, hown, hts, hK, hJ, hSx, q1, q2, q3, q4⟩ := hC; intro H locs ls hP hS hl
  by_cases hc : 0 < x
  · rw [if_pos hc]; exact lv_if_gt hx hb hd ht (fun c => kt c H locs ls hP hS hl) (fun c => absurd hc c)
  · rw [if_neg hc]; exact lv_if_gt hx hb hd ht (fun c => absurd c hc) (fun c => kf c H locs ls hP hS hl)
theorem j_if_gt {x : Int32} {off : Int} {tgt : Nat} (hC : tt_Cx G κ cc own nL fr lo) (hd : decode cc pc = .ok (.ifCond .gt off, 3)) (ht : (pc : Int) + off = (tgt : Int)) (kt : 0 < x → tt_V G κ T st tgt lv rest) (kf : ¬ 0 < x → tt_V G κ T st (pc + 3) lv rest) : tt_V G κ T st pc lv (.int x :: rest) := by
  obtain ⟨hx, hb, hml, hnL, hown, hts, hK, hJ, hSx, q1, q2, q3, q4⟩ := hC; intro H locs ls hP hS hl
  exact lv_if_gt hx hb hd ht (fun c => kt c H locs ls hP hS hl) (fun c => kf c H locs ls hP hS hl)
theorem t_if_gt {x : Int32} {off : Int} {tgt : Nat} (hC : tt_Cx G κ cc own nL fr lo) (hd : decode cc pc = .ok (.ifCond .gt off, 3)) (ht : (pc : Int) + off = (tgt : Int)) (h : 0 < x) (k : tt_V G κ T st tgt lv rest) : tt_V G κ T st pc lv (.int x :: rest) := j_if_gt hC hd ht (fun _ => k) (fun c => absurd h c)
theorem f_if_gt {x : Int32} {off : Int} {tgt : Nat} (hC : tt_Cx G κ cc own nL fr lo) (hd : decode cc pc = .ok (.ifCond .gt off, 3)) (ht : (pc : Int) + off = (tgt : Int)) (h : ¬ 0 < x) (k : tt_V G κ T st (pc + 3) lv rest) : tt_V G κ T st pc lv (.int x :: rest) := j_if_gt hC hd ht (fun c => absurd c h) (fun _ => k)
theorem r_if_le {x : Int32} {off : Int} {tgt : Nat} {T1 T2 : α} (hC : tt_Cx G κ cc own nL fr lo) (hd : decode cc pc = .ok (.ifCond .le off, 3)) (ht : (pc : Int) + off = (tgt : Int)) (kt : x ≤ 0 → tt_V G κ T1 st tgt lv rest) (kf : ¬ x ≤ 0 → tt_V G κ T2 st (pc + 3) lv rest) : tt_V G κ (if x ≤ 0 then T1 else T2) st pc lv (.int x :: rest) := by
  obtain ⟨hx, hb, hml, hnL, hown, hts, hK, hJ, hSx, q1, q2, q3, q4⟩ := hC; intro H locs ls hP hS hl
  by_cases hc : x ≤ 0
  · rw [if_pos hc]; exact lv_if_le hx hb hd ht (fun c => kt c H locs ls hP hS hl) (fun c => absurd hc c)
  · rw [if_neg hc]; exact lv_if_le hx hb hd ht (fun c => absurd c hc) (fun c => kf c H locs ls hP hS hl)
theorem j_if_le {x : Int32} {off : Int} {tgt : Nat} (hC : tt_Cx G κ cc own nL fr lo) (hd : decode cc pc = .ok (.ifCond .le off, 3)) (ht : (pc : Int) + off = (tgt : Int)) (kt : x ≤ 0 → tt_V G κ T st tgt lv rest) (kf : ¬ x ≤ 0 → tt_V G κ T st (pc + 3) lv rest) : tt_V G κ T st pc lv (.int x :: rest) := by
  obtain ⟨hx, hb, hml, hnL, hown, hts, hK, hJ, hSx, q1, q2, q3, q4⟩ := hC; intro H locs ls hP hS hl
  exact lv_if_le hx hb hd ht (fun c => kt c H locs ls hP hS hl) (fun c => kf c H locs ls hP hS hl)
theorem t_if_le {x : Int32} {off : Int} {tgt : Nat} (hC : tt_Cx G κ cc own nL fr lo) (hd : decode cc pc = .ok (.ifCond .le off, 3)) (ht : (pc : Int) + off = (tgt : Int)) (h : x ≤ 0) (k : tt_V G κ T st tgt lv rest) : tt_V G κ T st pc lv (.int x :: rest) := j_if_le hC hd ht (fun _ => k) (fun c => absurd h c)
theorem f_if_le {x : Int32} {off : Int} {tgt : Nat} (hC : tt_Cx G κ cc own nL fr lo) (hd : decode cc pc = .ok (.ifCond .le off, 3)) (ht : (pc : Int) + off = (tgt : Int)) (h : ¬ x ≤ 0) (k : tt_V G κ T st (pc + 3) lv rest) : tt_V G κ T st pc lv (.int x :: rest) := j_if_le hC hd ht (fun c => absurd c h) (fun _ => k)
theorem r_icmp_eq {x y : Int32} {off : Int} {tgt : Nat} {T1 T2 : α} (hC : tt_Cx G κ cc own nL fr lo) (hd : decode cc pc = .ok (.if_icmp .eq off, 3)) (ht : (pc : Int) + off = (tgt : Int)) (kt : x = y → tt_V G κ T1 st tgt lv rest) (kf : ¬ x = y → tt_V G κ T2 st (pc + 3) lv rest) : tt_V G κ (if x = y then T1 else T2) st pc lv (.int y :: .int x :: rest) := by
  obtain ⟨hx, hb, hml, hnL, hown, hts, hK, hJ, hSx, q1, q2, q3, q4⟩ := hC; intro H locs ls hP hS hl
  by_cases hc : x = y
  · rw [if_pos hc]; exact lv_icmp_eq hx hb hd ht (fun c => kt c H locs ls hP hS hl) (fun c => absurd hc c)
  · rw [if_neg hc]; exact lv_icmp_eq hx hb hd ht (fun c => absurd c hc) (fun c => kf c H locs ls hP hS hl)
theorem j_icmp_eq {x y : Int32} {off : Int} {tgt : Nat} (hC : tt_Cx G κ cc own nL fr lo) (hd : decode cc pc = .ok (.if_icmp .eq off, 3)) (ht : (pc : Int) + off = (tgt : Int)) (kt : x = y → tt_V G κ T st tgt lv rest) (kf : ¬ x = y → tt_V G κ T st (pc + 3) lv rest) : tt_V G κ T st pc lv (.int y :: .int x :: rest) := by
  obtain ⟨hx, hb, hml, hnL, hown, hts, hK, hJ, hSx, q1, q2, q3, q4⟩ := hC; intro H locs ls hP hS hl
  exact lv_icmp_eq hx hb hd ht (fun c => kt c H locs ls hP hS hl) (fun c => kf c H locs ls hP hS hl)
theorem t_icmp_eq {x y : Int32} {off : Int} {tgt : Nat} (hC : tt_Cx G κ cc own nL fr lo) (hd : decode cc pc = .ok (.if_icmp .eq off, 3)) (ht : (pc : Int) + off = (tgt : Int)) (h : x = y) (k : tt_V G κ T st tgt lv rest) : tt_V G κ T st pc lv (.int y :: .int x :: rest) := j_icmp_eq hC hd ht (fun _ => k) (fun c => absurd h c)
theorem f_icmp_eq {x y : Int32} {off : Int} {tgt : Nat} (hC : tt_Cx G κ cc own nL fr lo) (hd : decode cc pc = .ok (.if_icmp .eq off, 3)) (ht : (pc : Int) + off = (tgt : Int)) (h : ¬ x = y) (k : tt_V G κ T st (pc + 3) lv rest) : tt_V G κ T st pc lv (.int y :: .int x :: rest) := j_icmp_eq hC hd ht (fun c => absurd c h) (fun _ => k)
theorem r_icmp_ne {x y : Int32} {off : Int} {tgt : Nat} {T1 T2 : α} (hC : tt_Cx G κ cc own nL fr lo) (hd : decode cc pc = .ok (.if_icmp .ne off, 3)) (ht : (pc : Int) + off = (tgt : Int)) (kt : ¬ x = y → tt_V G κ T2 st tgt lv rest) (kf : x = y → tt_V G κ T1 st (pc + 3) lv rest) : tt_V G κ (if x = y then T1 else T2) st pc lv (.int y :: .int x :: rest) := by
  obtain ⟨hx, hb, hml, hnL, hown, hts, hK, hJ, hSx, q1, q2, q3, q4⟩ := hC; intro H locs ls hP hS hl
  by_cases hc : x = y
  · rw [if_pos hc]; exact lv_icmp_ne hx hb hd ht (fun c => absurd hc c) (fun c => kf c H locs ls hP hS hl)
  · rw [if_neg hc]; exact lv_icmp_ne hx hb hd ht (fun c => kt c H locs ls hP hS hl) (fun c => absurd c hc)
theorem j_icmp_ne {x y : Int32} {off : Int} {tgt : Nat} (hC : tt_Cx G κ cc own nL fr lo) (hd : decode cc pc = .ok (.if_icmp .ne off, 3)) (ht : (pc : Int) + off = (tgt : Int)) (kt : ¬ x = y → tt_V G κ T st tgt lv rest) (kf : x = y → tt_V G κ T st (pc + 3) lv rest) : tt_V G κ T st pc lv (.int y :: .int x :: rest) := by
  obtain ⟨hx, hb, hml, hnL, hown, hts, hK, hJ, hSx, q1, q2, q3, q4⟩ := hC; intro H locs ls hP hS hl
  exact lv_icmp_ne hx hb hd ht (fun c => kt c H locs ls hP hS hl) (fun c => kf c H locs ls hP hS hl)
theorem t_icmp_ne {x y : Int32} {off : Int} {tgt : Nat} (hC : tt_Cx G κ cc own nL fr lo) (hd : decode cc pc = .ok (.if_icmp .ne off, 3)) (ht : (pc : Int) + off = (tgt : Int)) (h : ¬ x = y) (k : tt_V G κ T st tgt lv rest) : tt_V G κ T st pc lv (.int y :: .int x :: rest) := j_icmp_ne hC hd ht (fun _ => k) (fun c => absurd c h)
theorem f_icmp_ne {x y : Int32} {off : Int} {tgt : Nat} (hC : tt_Cx G κ cc own nL fr lo) (hd : decode cc pc = .ok (.if_icmp .ne off, 3)) (ht : (pc : Int) + off = (tgt : Int)) (h : x = y) (k : tt_V G κ T st (pc + 3) lv rest) : tt_V G κ T st pc lv (.int y :: .int x :: rest) := j_icmp_ne hC hd ht (fun c => absurd h c) (fun _ => k)
theorem r_icmp_lt {x y : Int32} {off : Int} {tgt : Nat} {T1 T2 : α} (hC : tt_Cx G κ cc own nL fr lo) (hd : decode cc pc = .ok (.if_icmp .lt off, 3)) (ht : (pc : Int) + off = (tgt : Int)) (kt : x < y → tt_V G κ T1 st tgt lv rest) (kf : ¬ x < y → tt_V G κ T2 st (pc + 3) lv rest) : tt_V G κ (if x < y then T1 else T2) st pc lv (.int y :: .int x :: rest) := by
  obtain ⟨hx, hb, hml, hnL, hown, hts, hK, hJ, hSx, q1, q2, q3, q4⟩ := hC; intro H locs ls hP hS hl
  by_cases hc : x < y
  · rw [if_pos hc]; exact lv_icmp_lt hx hb hd ht (fun c => kt c H locs ls hP hS hl) (fun c => absurd hc c)
  · rw [if_neg hc]; exact lv_icmp_lt hx hb hd ht (fun c => absurd c hc) (fun c => kf c H locs ls hP hS hl)
theorem j_icmp_lt {x y : Int32} {off : Int} {tgt : Nat} (hC : tt_Cx G κ cc own nL fr lo) (hd : decode cc pc = .ok (.if_icmp .lt off, 3)) (ht : (pc : Int) + off = (tgt : Int)) (kt : x < y → tt_V G κ T st tgt lv rest) (kf : ¬ x < y → tt_V G κ T st (pc + 3) lv rest) : tt_V G κ T st pc lv (.int y :: .int x :: rest) := by
  obtain ⟨hx, hb, hml, hnL, hown, hts, hK, hJ, hSx, q1, q2, q3, q4⟩ := hC; intro H locs ls hP hS hl
  exact lv_icmp_lt hx hb hd ht (fun c => kt c H locs ls hP hS hl) (fun c => kf c H locs ls hP hS hl)
theorem t_icmp_lt {x y : Int32} {off : Int} {tgt : Nat} (hC : tt_Cx G κ cc own nL fr lo) (hd : decode cc pc = .ok (.if_icmp .lt off, 3)) (ht : (pc : Int) + off = (tgt : Int)) (h : x < y) (k : tt_V G κ T st tgt lv rest) : tt_V G κ T st pc lv (.int y :: .int x :: rest) := j_icmp_lt hC hd ht (fun _ => k) (fun c => absurd h c)
theorem f_icmp_lt {x y : Int32} {off : Int} {tgt : Nat} (hC : tt_Cx G κ cc own nL fr lo) (hd : decode cc pc = .ok (.if_icmp .lt off, 3)) (ht : (pc : Int) + off = (tgt : Int)) (h : ¬ x < y) (k : tt_V G κ T st (pc + 3) lv rest) : tt_V G κ T st pc lv (.int y :: .int x :: rest) := j_icmp_lt hC hd ht (fun c => absurd c h) (fun _ => k)
theorem r_icmp_ge {x y : Int32} {off : Int} {tgt : Nat} {T1 T2 : α} (hC : tt_Cx G κ cc own nL fr lo) (hd : decode cc pc = .ok (.if_icmp .ge off, 3)) (ht : (pc : Int) + off = (tgt : Int)) (kt : y ≤ x → tt_V G κ T1 st tgt lv rest) (kf : ¬ y ≤ x → tt_V G κ T2 st (pc + 3) lv rest) : tt_V G κ (if y ≤ x then T1 else T2) st pc lv (.int y :: .int x :: rest) := by
  obtain ⟨hx, hb, hml, hnL, hown, hts, hK, hJ, hSx, q1, q2, q3, q4⟩ := hC; intro H locs ls hP hS hl
  by_cases hc : y ≤ x
  · rw [if_pos hc]; exact lv_icmp_ge hx hb hd ht (fun c => kt c H locs ls hP hS hl) (fun c => absurd hc c)
  · rw [if_neg hc]; exact lv_icmp_ge hx hb hd ht (fun c => absurd c hc) (fun c => kf c H locs ls hP hS hl)
theorem j_icmp_ge {x y : Int32} {off : Int} {tgt : Nat} (hC : tt_Cx G κ cc own nL fr lo) (hd : decode cc pc = .ok (.if_icmp .ge off, 3)) (ht : (pc : Int) + off = (tgt : Int)) (kt : y ≤ x → tt_V G κ T st tgt lv rest) (kf : ¬ y ≤ x → tt_V G κ T st (pc + 3) lv rest) : tt_V G κ T st pc lv (.int y :: .int x :: rest) := by
  obtain ⟨hx, hb, hml, hnL, hown, hts, hK, hJ, hSx, q1, q2, q3, q4⟩ := hC; intro H locs ls hP hS hl
  exact lv_icmp_ge hx hb hd ht (fun c => kt c H locs ls hP hS hl) (fun c => kf c H locs ls hP hS hl)
theorem t_icmp_ge {x y : Int32} {off : Int} {tgt : Nat} (hC : tt_Cx G κ cc own nL fr lo) (hd : decode cc pc = .ok (.if_icmp .ge off, 3)) (ht : (pc : Int) + off = (tgt : Int)) (h : y ≤ x) (k : tt_V G κ T st tgt lv rest) : tt_V G κ T st pc lv (.int y :: .int x :: rest) := j_icmp_ge hC hd ht (fun _ => k) (fun c => absurd h c)
theorem f_icmp_ge {x y : Int32} {off : Int} {tgt : Nat} (hC : tt_Cx G κ cc own nL fr lo) (hd : decode cc pc = .ok (.if_icmp .ge off, 3)) (ht : (pc : Int) + off = (tgt : Int)) (h : ¬ y ≤ x) (k : tt_V G κ T st (pc + 3) lv rest) : tt_V G κ T st pc lv (.int y :: .int x :: rest) := j_icmp_ge hC hd ht (fun c => absurd c h) (fun _ => k)
theorem r_icmp_gt {x y : Int32} {off : Int} {tgt : Nat} {T1 T2 : α} (hC : tt_Cx G κ cc own nL fr lo) (hd : decode cc pc = .ok (.if_icmp .gt off, 3)) (ht : (pc : Int) + off = (tgt : Int)) (kt : y < x → tt_V G κ T1 st tgt lv rest) (kf : ¬ y < x → tt_V G κ T2 st (pc + 3) lv rest) : tt_V G κ (if y < x then T1 else T2) st pc lv (.int y :: .int x :: rest) := by
  obtain ⟨hx, hb, hml, hnL, hown, hts, hK, hJ, hSx, q1, q2, q3, q4⟩ := hC; intro H locs ls hP hS hl
  by_cases hc : y < x
  · rw [if_pos hc]; exact lv_icmp_gt hx hb hd ht (fun c => kt c H locs ls hP hS hl) (fun c => absurd hc c)
  · rw [if_neg hc]; exact lv_icmp_gt hx hb hd ht (fun c => absurd c hc) (fun c => kf c H locs ls hP hS hl)
theorem j_icmp_gt {x y : Int32} {off : Int} {tgt : Nat} (hC : tt_Cx G κ cc own nL fr lo) (hd : decode cc pc = .ok (.if_icmp .gt off, 3)) (ht : (pc : Int) + off = (tgt : Int)) (kt : y < x → tt_V G κ T st tgt lv rest) (kf : ¬ y < x → tt_V G κ T st (pc + 3) lv rest) : tt_V G κ T st pc lv (.int y :: .int x :: rest) := by
  obtain ⟨hx, hb, hml, hnL, hown, hts, hK, hJ, hSx, q1, q2, q3, q4⟩ := hC; intro H locs ls hP hS hl
  exact lv_icmp_gt hx hb hd ht (fun c => kt c H locs ls hP hS hl) (fun c => kf c H locs ls hP hS hl)
theorem t_icmp_gt {x y : Int32} {off : Int} {tgt : Nat} (hC : tt_Cx G κ cc own nL fr lo) (hd : decode cc pc = .ok (.if_icmp .gt off, 3)) (ht : (pc : Int) + off = (tgt : Int)) (h : y < x) (k : tt_V G κ T st tgt lv rest) : tt_V G κ T st pc lv (.int y :: .int x :: rest) := j_icmp_gt hC hd ht (fun _ => k) (fun c => absurd h c)
theorem f_icmp_gt {x y : Int32} {off : Int} {tgt : Nat} (hC : tt_Cx G κ cc own nL fr lo) (hd : decode cc pc = .ok (.if_icmp .gt off, 3)) (ht : (pc : Int) + off = (tgt : Int)) (h : ¬ y < x) (k : tt_V G κ T st (pc + 3) lv rest) : tt_V G κ T st pc lv (.int y :: .int x :: rest) := j_icmp_gt hC hd ht (fun c => absurd c h) (fun _ => k)
theorem r_icmp_le {x y : Int32} {off : Int} {tgt : Nat} {T1 T2 : α} (hC : tt_Cx G κ cc own nL fr lo) (hd : decode cc pc = .ok (.if_icmp .le off, 3)) (ht : (pc : Int) + off = (tgt : Int)) (kt : x ≤ y → tt_V G κ T1 st tgt lv rest) (kf : ¬ x ≤ y → tt_V G κ T2 st (pc + 3) lv rest) : tt_V G κ (if x ≤ y then T1 else T2) st pc lv (.int y :: .int x :: rest) := by
  obtain ⟨hx, hb, hml, hnL, hown, hts, hK, hJ, hSx, q1, q2, q3, q4⟩ := hC; intro H locs ls hP hS hl
  by_cases hc : x ≤ y
  · rw [if_pos hc]; exact lv_icmp_le hx hb hd ht (fun c => kt c H locs ls hP hS hl) (fun c => absurd hc c)
  · rw [if_neg hc]; exact lv_icmp_le hx hb hd ht (fun c => absurd c hc) (fun c => kf c H locs ls hP hS hl)
theorem j_icmp_le {x y : Int32} {off : Int} {tgt : Nat} (hC : tt_Cx G κ cc own nL fr lo) (hd : decode cc pc = .ok (.if_icmp .le off, 3)) (ht : (pc : Int) + off = (tgt : Int)) (kt : x ≤ y → tt_V G κ T st tgt lv rest) (kf : ¬ x ≤ y → tt_V G κ T st (pc + 3) lv rest) : tt_V G κ T st pc lv (.int y :: .int x :: rest) := by
  obtain ⟨hx, hb, hml, hnL, hown, hts, hK, hJ, hSx, q1, q2, q3, q4⟩ := hC; intro H locs ls hP hS hl
  exact lv_icmp_le hx hb hd ht (fun c => kt c H locs ls hP hS hl) (fun c => kf c H locs ls hP hS hl)
theorem t_icmp_le {x y : Int32} {off : Int} {tgt : Nat} (hC : tt_Cx G κ cc own nL fr lo) (hd : decode cc pc = .ok (.if_icmp .le off, 3)) (ht : (pc : Int) + off = (tgt : Int)) (h : x ≤ y) (k : tt_V G κ T st tgt lv rest) : tt_V G κ T st pc lv (.int y :: .int x :: rest) := j_icmp_le hC hd ht (fun _ => k) (fun c => absurd h c)
theorem f_icmp_le {x y : Int32} {off : Int} {tgt : Nat} (hC : tt_Cx G κ cc own nL fr lo) (hd : decode cc pc = .ok (.if_icmp .le off, 3)) (ht : (pc : Int) + off = (tgt : Int)) (h : ¬ x ≤ y) (k : tt_V G κ T st (pc + 3) lv rest) : tt_V G κ T st pc lv (.int y :: .int x :: rest) := j_icmp_le hC hd ht (fun c => absurd c h) (fun _ => k)
theorem r_iload_n {q : Fin 4} {x : Int32} (i : Nat) (hC : tt_Cx G κ cc own nL fr lo) (hd : decode cc pc = .ok (.iload_n q, 1)) (hk : lv[i]? = some ((q : Nat), .int x)) (k : tt_V G κ T st (pc + 1) lv (.int x :: rest)) : tt_V G κ T st pc lv rest := by
  obtain ⟨hx, hb, hml, hnL, hown, hts, hK, hJ, hSx, q1, q2, q3, q4⟩ := hC; intro H locs ls hP hS hl
  exact lv_iload_n hx hb hd rfl (lv_at hl i hk) (k H locs ls hP hS hl)
theorem r_iload {j : Nat} {x : Int32} (i : Nat) (hC : tt_Cx G κ cc own nL fr lo) (hd : decode cc pc = .ok (.iload j, 2)) (hk : lv[i]? = some (j, .int x)) (k : tt_V G κ T st (pc + 2) lv (.int x :: rest)) : tt_V G κ T st pc lv rest := by
  obtain ⟨hx, hb, hml, hnL, hown, hts, hK, hJ, hSx, q1, q2, q3, q4⟩ := hC; intro H locs ls hP hS hl
  exact lv_iload hx hb hd (lv_at hl i hk) (k H locs ls hP hS hl)
theorem r_istore {j : Nat} {x : Int32} (lv' : List (Nat × Value)) (hC : tt_Cx G κ cc own nL fr lo) (hd : decode cc pc = .ok (.istore j, 2)) (hn : j < nL) (hl' : (j, Value.int x) :: lv.filter (fun q => !(q.1 == j) && !(q.1 + 1 == j && q.2.category == 2)) = lv') (k : tt_V G κ T st (pc + 2) lv' rest) : tt_V G κ T st pc lv (.int x :: rest) := by
  obtain ⟨hx, hb, hml, hnL, hown, hts, hK, hJ, hSx, q1, q2, q3, q4⟩ := hC; intro H locs ls hP hS hl
  exact lv_istore hx hb hd hl (by rw [hnL]; exact hn) hl' (fun ls' h' => k H locs ls' hP hS h')
theorem r_istore_n {q : Fin 4} {j : Nat} {x : Int32} (lv' : List (Nat × Value)) (hC : tt_Cx G κ cc own nL fr lo) (hd : decode cc pc = .ok (.istore_n q, 1)) (hj : (q : Nat) = j) (hn : j < nL) (hl' : (j, Value.int x) :: lv.filter (fun q => !(q.1 == j) && !(q.1 + 1 == j && q.2.category == 2)) = lv') (k : tt_V G κ T st (pc + 1) lv' rest) : tt_V G κ T st pc lv (.int x :: rest) := by
  obtain ⟨hx, hb, hml, hnL, hown, hts, hK, hJ, hSx, q1, q2, q3, q4⟩ := hC; intro H locs ls hP hS hl
  exact lv_istore_n hx hb hd hj hl (by rw [hnL]; exact hn) hl' (fun ls' h' => k H locs ls' hP hS h')
theorem r_lload_n {q : Fin 4} {x : Int64} (i : Nat) (hC : tt_Cx G κ cc own nL fr lo) (hd : decode cc pc = .ok (.lload_n q, 1)) (hk : lv[i]? = some ((q : Nat), .long x)) (k : tt_V G κ T st (pc + 1) lv (.long x :: rest)) : tt_V G κ T st pc lv rest := by
  obtain ⟨hx, hb, hml, hnL, hown, hts, hK, hJ, hSx, q1, q2, q3, q4⟩ := hC; intro H locs ls hP hS hl
  exact lv_lload_n hx hb hd rfl (lv_at hl i hk) (k H locs ls hP hS hl)
theorem r_lload {j : Nat} {x : Int64} (i : Nat) (hC : tt_Cx G κ cc own nL fr lo) (hd : decode cc pc = .ok (.lload j, 2)) (hk : lv[i]? = some (j, .long x)) (k : tt_V G κ T st (pc + 2) lv (.long x :: rest)) : tt_V G κ T st pc lv rest := by
  obtain ⟨hx, hb, hml, hnL, hown, hts, hK, hJ, hSx, q1, q2, q3, q4⟩ := hC; intro H locs ls hP hS hl
  exact lv_lload hx hb hd (lv_at hl i hk) (k H locs ls hP hS hl)
theorem r_lstore {j : Nat} {x : Int64} (lv' : List (Nat × Value)) (hC : tt_Cx G κ cc own nL fr lo) (hd : decode cc pc = .ok (.lstore j, 2)) (hn : j + 1 < nL) (hl' : (j, Value.long x) :: lv.filter (fun q => !(q.1 == j) && (!(q.1 == j + 1) && !(q.1 + 1 == j && q.2.category == 2))) = lv') (k : tt_V G κ T st (pc + 2) lv' rest) : tt_V G κ T st pc lv (.long x :: rest) := by
  obtain ⟨hx, hb, hml, hnL, hown, hts, hK, hJ, hSx, q1, q2, q3, q4⟩ := hC; intro H locs ls hP hS hl
  exact lv_lstore hx hb hd hl (by rw [hnL]; exact hn) hl' (fun ls' h' => k H locs ls' hP hS h')
theorem r_lstore_n {q : Fin 4} {j : Nat} {x : Int64} (lv' : List (Nat × Value)) (hC : tt_Cx G κ cc own nL fr lo) (hd : decode cc pc = .ok (.lstore_n q, 1)) (hj : (q : Nat) = j) (hn : j + 1 < nL) (hl' : (j, Value.long x) :: lv.filter (fun q => !(q.1 == j) && (!(q.1 == j + 1) && !(q.1 + 1 == j && q.2.category == 2))) = lv') (k : tt_V G κ T st (pc + 1) lv' rest) : tt_V G κ T st pc lv (.long x :: rest) := by
  obtain ⟨hx, hb, hml, hnL, hown, hts, hK, hJ, hSx, q1, q2, q3, q4⟩ := hC; intro H locs ls hP hS hl
  exact lv_lstore_n hx hb hd hj hl (by rw [hnL]; exact hn) hl' (fun ls' h' => k H locs ls' hP hS h')
theorem r_aload_n {q : Fin 4} {x : Nat} (i : Nat) (hC : tt_Cx G κ cc own nL fr lo) (hd : decode cc pc = .ok (.aload_n q, 1)) (hk : lv[i]? = some ((q : Nat), .ref x)) (k : tt_V G κ T st (pc + 1) lv (.ref x :: rest)) : tt_V G κ T st pc lv rest := by
  obtain ⟨hx, hb, hml, hnL, hown, hts, hK, hJ, hSx, q1, q2, q3, q4⟩ := hC; intro H locs ls hP hS hl
  exact lv_aload_n hx hb hd rfl (lv_at hl i hk) (k H locs ls hP hS hl)
theorem r_aload {j : Nat} {x : Nat} (i : Nat) (hC : tt_Cx G κ cc own nL fr lo) (hd : decode cc pc = .ok (.aload j, 2)) (hk : lv[i]? = some (j, .ref x)) (k : tt_V G κ T st (pc + 2) lv (.ref x :: rest)) : tt_V G κ T st pc lv rest := by
  obtain ⟨hx, hb, hml, hnL, hown, hts, hK, hJ, hSx, q1, q2, q3, q4⟩ := hC; intro H locs ls hP hS hl
  exact lv_aload hx hb hd (lv_at hl i hk) (k H locs ls hP hS hl)
theorem r_astore {j : Nat} {x : Nat} (lv' : List (Nat × Value)) (hC : tt_Cx G κ cc own nL fr lo) (hd : decode cc pc = .ok (.astore j, 2)) (hn : j < nL) (hl' : (j, Value.ref x) :: lv.filter (fun q => !(q.1 == j) && !(q.1 + 1 == j && q.2.category == 2)) = lv') (k : tt_V G κ T st (pc + 2) lv' rest) : tt_V G κ T st pc lv (.ref x :: rest) := by
  obtain ⟨hx, hb, hml, hnL, hown, hts, hK, hJ, hSx, q1, q2, q3, q4⟩ := hC; intro H locs ls hP hS hl
  exact lv_astore hx hb hd hl (by rw [hnL]; exact hn) hl' (fun ls' h' => k H locs ls' hP hS h')
theorem r_astore_n {q : Fin 4} {j : Nat} {x : Nat} (lv' : List (Nat × Value)) (hC : tt_Cx G κ cc own nL fr lo) (hd : decode cc pc = .ok (.astore_n q, 1)) (hj : (q : Nat) = j) (hn : j < nL) (hl' : (j, Value.ref x) :: lv.filter (fun q => !(q.1 == j) && !(q.1 + 1 == j && q.2.category == 2)) = lv') (k : tt_V G κ T st (pc + 1) lv' rest) : tt_V G κ T st pc lv (.ref x :: rest) := by
  obtain ⟨hx, hb, hml, hnL, hown, hts, hK, hJ, hSx, q1, q2, q3, q4⟩ := hC; intro H locs ls hP hS hl
  exact lv_astore_n hx hb hd hj hl (by rw [hnL]; exact hn) hl' (fun ls' h' => k H locs ls' hP hS h')
theorem r_iinc {j : Nat} {n : Int} {x : Int32} (i : Nat) (v : Int32) (lv' : List (Nat × Value)) (hC : tt_Cx G κ cc own nL fr lo) (hd : decode cc pc = .ok (.iinc j n, 3)) (hk : lv[i]? = some (j, .int x)) (hv : x + Int32.ofInt n = v) (hn : j < nL) (hl' : (j, Value.int v) :: lv.filter (fun q => !(q.1 == j) && !(q.1 + 1 == j && q.2.category == 2)) = lv') (k : tt_V G κ T st (pc + 3) lv' rest) : tt_V G κ T st pc lv rest := by
  obtain ⟨hx, hb, hml, hnL, hown, hts, hK, hJ, hSx, q1, q2, q3, q4⟩ := hC; intro H locs ls hP hS hl
  exact lv_iinc hx hb hd hl hk hv (by rw [hnL]; exact hn) hl' (fun ls' h' => k H locs ls' hP hS h')
theorem r_sub (lv' : List (Nat × Value)) (ks : List Nat) (hp : lv_pick lv ks = lv') (k : tt_V G κ T st pc lv' rest) : tt_V G κ T st pc lv rest := fun H locs ls hP hS hl => k H locs ls hP hS (lv_sub hl ks hp)
theorem r_ldc {index : Nat} {v : Int32} (hC : tt_Cx G κ cc own nL fr lo) (hd : decode cc pc = .ok (.ldc index, 2)) (hc : Cond.constant own index v ∈ tt_good) (k : tt_V G κ T st (pc + 2) lv (.int v :: rest)) : tt_V G κ T st pc lv rest := by
  obtain ⟨hx, hb, hml, hnL, hown, hts, hK, hJ, hSx, q1, q2, q3, q4⟩ := hC; intro H locs ls hP hS hl
  exact lv_ldc hx hb hown (hts _ hc) hd (k H locs ls hP hS hl)
theorem r_ldcw {index : Nat} {v : Int32} (hC : tt_Cx G κ cc own nL fr lo) (hd : decode cc pc = .ok (.ldc_w index, 3)) (hc : Cond.constant own index v ∈ tt_good) (k : tt_V G κ T st (pc + 3) lv (.int v :: rest)) : tt_V G κ T st pc lv rest := by
  obtain ⟨hx, hb, hml, hnL, hown, hts, hK, hJ, hSx, q1, q2, q3, q4⟩ := hC; intro H locs ls hP hS hl
  exact lv_ldcw hx hb hown (hts _ hc) hd (k H locs ls hP hS hl)
theorem r_ldc2 {index : Nat} {v : Int64} (hC : tt_Cx G κ cc own nL fr lo) (hd : decode cc pc = .ok (.ldc2_w index, 3)) (hc : Cond.constantLong own index v ∈ tt_good) (k : tt_V G κ T st (pc + 3) lv (.long v :: rest)) : tt_V G κ T st pc lv rest := by
  obtain ⟨hx, hb, hml, hnL, hown, hts, hK, hJ, hSx, q1, q2, q3, q4⟩ := hC; intro H locs ls hP hS hl
  exact lv_ldc2 hx hb hown (hts _ hc) hd (k H locs ls hP hS hl)
theorem r_tabOut {dflt lo1 hi1 : Int} {offs : Array Int} {len : Nat} {x : Int32} {tgt : Nat} (hC : tt_Cx G κ cc own nL fr lo) (hd : decode cc pc = .ok (.tableswitch dflt lo1 hi1 offs, len)) (h : x.toInt < lo1 ∨ hi1 < x.toInt) (ht : (pc : Int) + dflt = (tgt : Int)) (k : tt_V G κ T st tgt lv rest) : tt_V G κ T st pc lv (.int x :: rest) := by
  obtain ⟨hx, hb, hml, hnL, hown, hts, hK, hJ, hSx, q1, q2, q3, q4⟩ := hC; intro H locs ls hP hS hl
  exact lv_tableOut hx hb hd h ht (k H locs ls hP hS hl)
theorem r_tabIn {dflt lo1 hi1 : Int} {offs : Array Int} {len : Nat} {x : Int32} {off : Int} {tgt : Nat} (hC : tt_Cx G κ cc own nL fr lo) (hd : decode cc pc = .ok (.tableswitch dflt lo1 hi1 offs, len)) (h1 : ¬ x.toInt < lo1) (h2 : ¬ hi1 < x.toInt) (ho : offs[(x.toInt - lo1).toNat]? = some off) (ht : (pc : Int) + off = (tgt : Int)) (k : tt_V G κ T st tgt lv rest) : tt_V G κ T st pc lv (.int x :: rest) := by
  obtain ⟨hx, hb, hml, hnL, hown, hts, hK, hJ, hSx, q1, q2, q3, q4⟩ := hC; intro H locs ls hP hS hl
  exact lv_tableIn hx hb hd h1 h2 ho ht (k H locs ls hP hS hl)
theorem r_look {dflt : Int} {ps : Array (Int × Int)} {len : Nat} {x : Int32} {off : Int} {tgt : Nat} (hC : tt_Cx G κ cc own nL fr lo) (hd : decode cc pc = .ok (.lookupswitch dflt ps, len)) (hp : (ps.toList.zip (ps.toList.drop 1)).all (fun (a, next) => a.1 < next.1) = true) (ho : Op.lookupswitch.offset ps.toList dflt x.toInt = off) (ht : (pc : Int) + off = (tgt : Int)) (k : tt_V G κ T st tgt lv rest) : tt_V G κ T st pc lv (.int x :: rest) := by
  obtain ⟨hx, hb, hml, hnL, hown, hts, hK, hJ, hSx, q1, q2, q3, q4⟩ := hC; intro H locs ls hP hS hl
  exact lv_lookup hx hb hd hp ho ht (k H locs ls hP hS hl)
/-! fields -/
/-- the pool's entry is this field of this class -/
def tt_FL (own : String) (index ci f : Nat) : Prop := ∃ (C : String) (F : u_T) (N : Nat), tt_cl[ci]? = some (C, F, N) ∧ f < N ∧ tt_nf ci = N ∧ Cond.fieldLink own index C (F f).2.1 (F f).2.2.1 ∈ tt_good ∧ (F f).1 = C ∧ (∀ w ∈ u_ws C F N, w ∈ tt_good)
theorem r_getI {index ci f o : Nat} (hC : tt_Cx G κ cc own nL fr lo) (hd : decode cc pc = .ok (.getfield index, 3)) (hf : tt_FL own index ci f) (hk : tt_kd ci f = 0) (ho : tt_ci o = ci) (k : tt_V G κ T st (pc + 3) lv (.int (tt_I st o f) :: rest)) : tt_V G κ T st pc lv (.ref (tt_ad G o) :: rest) := by
  obtain ⟨hx, hb, hml, hnL, hown, hts, hK, hJ, hSx, q1, q2, q3, q4⟩ := hC; intro H locs ls hP hS hl
  obtain ⟨C, F, N, e1, e2, e3, e4, e5, e6⟩ := hf
  have hlt : tt_ci o < 6 := by rw [ho]; exact (List.getElem?_eq_some_iff.mp e1).1
  have hE := tt_ws_get G st (tt_ci_lt hlt)
  rw [tt_E_obj hlt, ho] at hE
  have hv : (tt_fs G st o)[f]? = some (.int (tt_I st o f)) := by
    rw [tt_fs_get (by rw [ho, e3]; exact e2)]
    simp [tt_fv, ho, hk]
  exact va_get hx hb hts e6 hown hK hP o hE e1 f e2 (hts _ e4) (by rw [e5]; exact fun _ h => h) hv hd (k H locs ls hP hS hl)
theorem r_getR {index ci f o r : Nat} (hC : tt_Cx G κ cc own nL fr lo) (hd : decode cc pc = .ok (.getfield index, 3)) (hf : tt_FL own index ci f) (hk : tt_kd ci f = 1) (ho : tt_ci o = ci) (hr : tt_R o f = r) (k : tt_V G κ T st (pc + 3) lv (.ref (tt_ad G r) :: rest)) : tt_V G κ T st pc lv (.ref (tt_ad G o) :: rest) := by
  obtain ⟨hx, hb, hml, hnL, hown, hts, hK, hJ, hSx, q1, q2, q3, q4⟩ := hC; intro H locs ls hP hS hl
  obtain ⟨C, F, N, e1, e2, e3, e4, e5, e6⟩ := hf
  have hlt : tt_ci o < 6 := by rw [ho]; exact (List.getElem?_eq_some_iff.mp e1).1
  have hE := tt_ws_get G st (tt_ci_lt hlt)
  rw [tt_E_obj hlt, ho] at hE
  have hv : (tt_fs G st o)[f]? = some (.ref (tt_ad G r)) := by
    rw [tt_fs_get (by rw [ho, e3]; exact e2)]
    simp [tt_fv, ho, hk, hr]
  exact va_get hx hb hts e6 hown hK hP o hE e1 f e2 (hts _ e4) (by rw [e5]; exact fun _ h => h) hv hd (k H locs ls hP hS hl)
theorem r_getL {index ci f o : Nat} (hC : tt_Cx G κ cc own nL fr lo) (hd : decode cc pc = .ok (.getfield index, 3)) (hf : tt_FL own index ci f) (hk : tt_kd ci f = 2) (ho : tt_ci o = ci) (k : tt_V G κ T st (pc + 3) lv (.long (tt_L st o f) :: rest)) : tt_V G κ T st pc lv (.ref (tt_ad G o) :: rest) := by
  obtain ⟨hx, hb, hml, hnL, hown, hts, hK, hJ, hSx, q1, q2, q3, q4⟩ := hC; intro H locs ls hP hS hl
  obtain ⟨C, F, N, e1, e2, e3, e4, e5, e6⟩ := hf
  have hlt : tt_ci o < 6 := by rw [ho]; exact (List.getElem?_eq_some_iff.mp e1).1
  have hE := tt_ws_get G st (tt_ci_lt hlt)
  rw [tt_E_obj hlt, ho] at hE
  have hv : (tt_fs G st o)[f]? = some (.long (tt_L st o f)) := by
    rw [tt_fs_get (by rw [ho, e3]; exact e2)]
    simp [tt_fv, ho, hk]
  exact va_get hx hb hts e6 hown hK hP o hE e1 f e2 (hts _ e4) (by rw [e5]; exact fun _ h => h) hv hd (k H locs ls hP hS hl)
/-- what a store into this field asks -/
def tt_FP (ci f : Nat) (ty : FieldType) : Prop := ∃ (C : String) (F : u_T) (N : Nat) (ty0 : Nat → FieldType), tt_cl[ci]? = some (C, F, N) ∧ (∀ k, k < N → parseFieldDescriptor (F k).2.2.1 = some (ty0 k)) ∧ (∀ a, a < N → ∀ b, b < N → a ≠ b → (F a).2.1 ≠ (F b).2.1) ∧ (F f).2.2.2 = false ∧ parseFieldDescriptor (F f).2.2.1 = some ty
theorem r_putI {index ci f o : Nat} {v : Int32} {ty : FieldType} (hC : tt_Cx G κ cc own nL fr lo) (hd : decode cc pc = .ok (.putfield index, 3)) (hf : tt_FL own index ci f) (hp : tt_FP ci f ty) (hk : tt_kd ci f = 0) (ho : tt_ci o = ci) (hn : narrow ty (.int v) = .int v) (hfit : fits ty (.int v) = true) (k : tt_V G κ T (tt_pI st o f v) (pc + 3) lv rest) : tt_V G κ T st pc lv (.int v :: .ref (tt_ad G o) :: rest) := by
  obtain ⟨hx, hb, hml, hnL, hown, hts, hK, hJ, hSx, q1, q2, q3, q4⟩ := hC; intro H locs ls hP hS hl
  obtain ⟨C, F, N, e1, e2, e3, e4, e5, e6⟩ := hf
  obtain ⟨C', F', N', ty0, p1, p2, p3, p4, p5⟩ := hp
  cases e1.symm.trans p1
  have hlt : tt_ci o < 6 := by rw [ho]; exact (List.getElem?_eq_some_iff.mp e1).1
  have hE := tt_ws_get G st (tt_ci_lt hlt)
  rw [tt_E_obj hlt, ho] at hE
  have hset : (tt_ws G st).set o (tt_ad G o, .inr (ci, (tt_fs G st o).set f (.int v))) = tt_ws G (tt_pI st o f v) := by
    rw [← tt_ws_set (st := st) (st' := tt_pI st o f v) (tt_ci_lt hlt) (fun j hj => tt_E_pI hj), tt_E_obj hlt, tt_fs_pI (by rw [ho]; exact hk), ho]
  refine va_put hx hb hts e6 ty0 p2 p3 hown hK hP (tt_D hJ st) hS o hE e1 f e2 (hts _ e4) (by rw [e5]; exact fun _ h => h) p4 p5 hn hfit (by rw [tt_fs_len, ho, e3]; exact e2) hd (fun H1 locs1 hP1 hD1 hS1 => ?_)
  rw [hset] at hP1
  exact k H1 locs1 ls hP1 hS1 hl
theorem r_putL {index ci f o : Nat} {v : Int64} (hC : tt_Cx G κ cc own nL fr lo) (hd : decode cc pc = .ok (.putfield index, 3)) (hf : tt_FL own index ci f) (hp : tt_FP ci f .long) (hk : tt_kd ci f = 2) (ho : tt_ci o = ci) (k : tt_V G κ T (tt_pL st o f v) (pc + 3) lv rest) : tt_V G κ T st pc lv (.long v :: .ref (tt_ad G o) :: rest) := by
  obtain ⟨hx, hb, hml, hnL, hown, hts, hK, hJ, hSx, q1, q2, q3, q4⟩ := hC; intro H locs ls hP hS hl
  obtain ⟨C, F, N, e1, e2, e3, e4, e5, e6⟩ := hf
  obtain ⟨C', F', N', ty0, p1, p2, p3, p4, p5⟩ := hp
  cases e1.symm.trans p1
  have hlt : tt_ci o < 6 := by rw [ho]; exact (List.getElem?_eq_some_iff.mp e1).1
  have hE := tt_ws_get G st (tt_ci_lt hlt)
  rw [tt_E_obj hlt, ho] at hE
  have hset : (tt_ws G st).set o (tt_ad G o, .inr (ci, (tt_fs G st o).set f (.long v))) = tt_ws G (tt_pL st o f v) := by
    rw [← tt_ws_set (st := st) (st' := tt_pL st o f v) (tt_ci_lt hlt) (fun j hj => tt_E_pL hj), tt_E_obj hlt, tt_fs_pL (by rw [ho]; exact hk), ho]
  refine va_put hx hb hts e6 ty0 p2 p3 hown hK hP (tt_D hJ st) hS o hE e1 f e2 (hts _ e4) (by rw [e5]; exact fun _ h => h) p4 p5 rfl rfl (by rw [tt_fs_len, ho, e3]; exact e2) hd (fun H1 locs1 hP1 hD1 hS1 => ?_)
  rw [hset] at hP1
  exact k H1 locs1 ls hP1 hS1 hl
/-! arrays -/
theorem tt_E_arr {G : tt_G} {st : tt_St} {o t n : Nat} (ho : tt_ci o = 9) (ht : tt_at o = t) (h1 : t ≤ 1) (hn : tt_len o = n) : tt_E G st o = .inl (tt_cA G t, n, .inl (tt_A st o)) := by
  rw [tt_E, if_neg (by omega), if_pos (by omega), ht, hn]
theorem r_iald {o n : Nat} {i : Int32} (hC : tt_Cx G κ cc own nL fr lo) (hd : decode cc pc = .ok (.iaload, 1)) (ho : tt_ci o = 9) (ho2 : o < 76) (ht : tt_at o = 0) (hn : tt_len o = n) (hi : vp_in i n) (k : tt_V G κ T st (pc + 1) lv (.int (tt_A st o i.toNatClampNeg) :: rest)) : tt_V G κ T st pc lv (.int i :: .ref (tt_ad G o) :: rest) := by
  obtain ⟨hx, hb, hml, hnL, hown, hts, hK, hJ, hSx, q1, q2, q3, q4⟩ := hC; intro H locs ls hP hS hl
  have hE := tt_ws_get G st ho2
  rw [tt_E_arr ho ht (by omega) hn] at hE
  exact va_iald hx hb hK hP o 0 hE rfl hi hd (k H locs ls hP hS hl)
theorem r_bald {o n : Nat} {i : Int32} (hC : tt_Cx G κ cc own nL fr lo) (hd : decode cc pc = .ok (.baload, 1)) (ho : tt_ci o = 9) (ho2 : o < 76) (ht : tt_at o = 1) (hn : tt_len o = n) (hi : vp_in i n) (k : tt_V G κ T st (pc + 1) lv (.int (tt_A st o i.toNatClampNeg) :: rest)) : tt_V G κ T st pc lv (.int i :: .ref (tt_ad G o) :: rest) := by
  obtain ⟨hx, hb, hml, hnL, hown, hts, hK, hJ, hSx, q1, q2, q3, q4⟩ := hC; intro H locs ls hP hS hl
  have hE := tt_ws_get G st ho2
  rw [tt_E_arr ho ht (by omega) hn] at hE
  exact va_bald hx hb hK hP o 1 hE rfl hi hd (k H locs ls hP hS hl)
theorem tt_set_arr {G : tt_G} {st : tt_St} {o t n i : Nat} {v : Int32} (ho : tt_ci o = 9) (ho2 : o < 76) (ht : tt_at o = t) (h1 : t ≤ 1) (hn : tt_len o = n) : (tt_ws G st).set o (tt_ad G o, .inl (tt_cA G t, n, .inl (upd (tt_A st o) i v))) = tt_ws G (tt_pA st o i v) := by
  rw [← tt_ws_set (st := st) (st' := tt_pA st o i v) ho2 (fun j hj => tt_E_pA hj), tt_E_arr ho ht h1 hn, tt_A_pA]
theorem r_iast {o n : Nat} {i v : Int32} (hC : tt_Cx G κ cc own nL fr lo) (hd : decode cc pc = .ok (.iastore, 1)) (ho : tt_ci o = 9) (ho2 : o < 76) (ht : tt_at o = 0) (hn : tt_len o = n) (hi : vp_in i n) (k : tt_V G κ T (tt_pA st o i.toNatClampNeg v) (pc + 1) lv rest) : tt_V G κ T st pc lv (.int v :: .int i :: .ref (tt_ad G o) :: rest) := by
  obtain ⟨hx, hb, hml, hnL, hown, hts, hK, hJ, hSx, q1, q2, q3, q4⟩ := hC; intro H locs ls hP hS hl
  have hE := tt_ws_get G st ho2
  rw [tt_E_arr ho ht (by omega) hn] at hE
  refine va_iast hx hb hK hP (tt_D hJ st) hS o 0 hE rfl hi hd (fun H1 locs1 hP1 hD1 hS1 => ?_)
  rw [tt_set_arr ho ho2 ht (by omega) hn] at hP1
  exact k H1 locs1 ls hP1 hS1 hl
theorem r_bast {o n : Nat} {i v : Int32} (hC : tt_Cx G κ cc own nL fr lo) (hd : decode cc pc = .ok (.bastore, 1)) (ho : tt_ci o = 9) (ho2 : o < 76) (ht : tt_at o = 1) (hn : tt_len o = n) (hi : vp_in i n) (k : tt_V G κ T (tt_pA st o i.toNatClampNeg (vp_nar .byte v)) (pc + 1) lv rest) : tt_V G κ T st pc lv (.int v :: .int i :: .ref (tt_ad G o) :: rest) := by
  obtain ⟨hx, hb, hml, hnL, hown, hts, hK, hJ, hSx, q1, q2, q3, q4⟩ := hC; intro H locs ls hP hS hl
  have hE := tt_ws_get G st ho2
  rw [tt_E_arr ho ht (by omega) hn] at hE
  refine va_bast hx hb hK hP (tt_D hJ st) hS o 1 hE rfl hi hd (fun H1 locs1 hP1 hD1 hS1 => ?_)
  rw [tt_set_arr ho ho2 ht (by omega) hn] at hP1
  exact k H1 locs1 ls hP1 hS1 hl
theorem r_alen {o n : Nat} {v : Int32} (hC : tt_Cx G κ cc own nL fr lo) (hd : decode cc pc = .ok (.arraylength, 1)) (ho : tt_ci o = 9) (ho2 : o < 76) (ht : tt_at o = 0) (hn : tt_len o = n) (hv : Int32.ofNat n = v) (k : tt_V G κ T st (pc + 1) lv (.int v :: rest)) : tt_V G κ T st pc lv (.ref (tt_ad G o) :: rest) := by
  obtain ⟨hx, hb, hml, hnL, hown, hts, hK, hJ, hSx, q1, q2, q3, q4⟩ := hC; intro H locs ls hP hS hl
  have hE := tt_ws_get G st ho2
  rw [tt_E_arr ho ht (by omega) hn] at hE
  exact va_alen hx hb hK hP o 0 hE (ty := .int) rfl hv hd (k H locs ls hP hS hl)
theorem tt_E_ref {G : tt_G} {st : tt_St} {o t n : Nat} (ho : tt_ci o = 9) (ht : tt_at o = t) (h1 : 1 < t) (hn : tt_len o = n) : tt_E G st o = .inl (tt_cA G t, n, .inr (.inr (.inr (.inr (fun j => some (tt_ad G (tt_RA o j))))))) := by
  rw [tt_E, if_neg (by omega), if_neg (by omega), ht, hn]
theorem r_aald {o n t r : Nat} {i : Int32} {C : String} (hC : tt_Cx G κ cc own nL fr lo) (hd : decode cc pc = .ok (.aaload, 1)) (ho : tt_ci o = 9) (ho2 : o < 76) (ht : tt_at o = t) (h1 : 1 < t) (hC2 : ∀ G : tt_G, (tt_tys G)[t]? = some (tt_cA G t, .object C)) (hn : tt_len o = n) (hi : vp_in i n) (hr : tt_RA o i.toNatClampNeg = r) (k : tt_V G κ T st (pc + 1) lv (.ref (tt_ad G r) :: rest)) : tt_V G κ T st pc lv (.int i :: .ref (tt_ad G o) :: rest) := by
  obtain ⟨hx, hb, hml, hnL, hown, hts, hK, hJ, hSx, q1, q2, q3, q4⟩ := hC; intro H locs ls hP hS hl
  have hE := tt_ws_get G st ho2
  rw [tt_E_ref ho ht h1 hn] at hE
  refine va_aldq hx hb hK hP o t hE (hC2 G) hi hd ?_
  rw [hr]
  exact k H locs ls hP hS hl
/-! statics -/
theorem r_gets {index j : Nat} (hC : tt_Cx G κ cc own nL fr lo) (hd : decode cc pc = .ok (.getstatic index, 3)) (hj : j < 3) (hw : Cond.fieldLink own index "TideTable" (tt_sN j) "[I" ∈ tt_good) (k : tt_V G κ T st (pc + 3) lv (.ref (tt_sa G j) :: rest)) : tt_V G κ T st pc lv rest := by
  obtain ⟨hx, hb, hml, hnL, hown, hts, hK, hJ, hSx, q1, q2, q3, q4⟩ := hC; intro H locs ls hP hS hl
  exact va_gets hx hb (hSx.1 j hj).1 hS hown (hts _ hw) (fun _ h => h) hd (k H locs ls hP hS hl)
theorem r_tald {j : Nat} {i : Int32} (hC : tt_Cx G κ cc own nL fr lo) (hd : decode cc pc = .ok (.iaload, 1)) (hj : j < 3) (hi : vp_in i (tt_sn j)) (k : tt_V G κ T st (pc + 1) lv (.int (tt_sv j i.toNatClampNeg) :: rest)) : tt_V G κ T st pc lv (.int i :: .ref (tt_sa G j) :: rest) := by
  obtain ⟨hx, hb, hml, hnL, hown, hts, hK, hJ, hSx, q1, q2, q3, q4⟩ := hC; intro H locs ls hP hS hl
  exact va_ti hx hb (hSx.1 j hj).2 hS hi rfl hd (k H locs ls hP hS hl)
theorem r_tlen {j : Nat} {v : Int32} (hC : tt_Cx G κ cc own nL fr lo) (hd : decode cc pc = .ok (.arraylength, 1)) (hj : j < 3) (hv : Int32.ofNat (tt_sn j) = v) (k : tt_V G κ T st (pc + 1) lv (.int v :: rest)) : tt_V G κ T st pc lv (.ref (tt_sa G j) :: rest) := by
  obtain ⟨hx, hb, hml, hnL, hown, hts, hK, hJ, hSx, q1, q2, q3, q4⟩ := hC; intro H locs ls hP hS hl
  exact va_tlen hx hb (hSx.1 j hj).2 hS hv hd (k H locs ls hP hS hl)
/-! ends -/
theorem r_iret {v : Int32} {ty : FieldType} {mk : α → Option Value × tt_St} (hC : tt_Cx G κ cc own nL fr lo) (hR : tt_Rt G κ (some ty) mk) (hd : decode cc pc = .ok (.ireturn, 1)) (hn : narrow ty (.int v) = .int v) (hT : mk T = (some (.int v), st)) : tt_V G κ T st pc lv [.int v] := by
  obtain ⟨hx, hb, hml, hnL, hown, hts, hK, hJ, hSx, q1, q2, q3, q4⟩ := hC; intro H locs ls hP hS hl
  obtain ⟨r1, r2, r3, r4⟩ := hR
  show W _ _ _ _ _ _ _ _ _ _ _ _ _ _ _ _
  rw [r4, r3, hT]
  exact W.zret hx hb r1 hn (fun t ht hW => ⟨rfl, by rw [ht]; exact hP, hS.F ht⟩) hS.2.2 hd r2
theorem r_lret {v : Int64} {mk : α → Option Value × tt_St} (hC : tt_Cx G κ cc own nL fr lo) (hR : tt_Rt G κ (some .long) mk) (hd : decode cc pc = .ok (.lreturn, 1)) (hT : mk T = (some (.long v), st)) : tt_V G κ T st pc lv [.long v] := by
  obtain ⟨hx, hb, hml, hnL, hown, hts, hK, hJ, hSx, q1, q2, q3, q4⟩ := hC; intro H locs ls hP hS hl
  obtain ⟨r1, r2, r3, r4⟩ := hR
  show W _ _ _ _ _ _ _ _ _ _ _ _ _ _ _ _
  rw [r4, r3, hT]
  exact W.lret hx hb r1 (fun t ht hW => ⟨rfl, by rw [ht]; exact hP, hS.F ht⟩) hS.2.2 hd r2
theorem r_vret {mk : α → Option Value × tt_St} (hC : tt_Cx G κ cc own nL fr lo) (hR : tt_Rt G κ none mk) (hd : decode cc pc = .ok (.return_, 1)) (hT : mk T = (none, st)) : tt_V G κ T st pc lv [] := by
  obtain ⟨hx, hb, hml, hnL, hown, hts, hK, hJ, hSx, q1, q2, q3, q4⟩ := hC; intro H locs ls hP hS hl
  obtain ⟨r1, r2, r3, r4⟩ := hR
  show W _ _ _ _ _ _ _ _ _ _ _ _ _ _ _ _
  rw [r4, r3, hT]
  exact W.vret hx hb r1 (fun t ht hW => ⟨rfl, by rw [ht]; exact hP, hS.F ht⟩) hS.2.2 hd r2

end TR
end
