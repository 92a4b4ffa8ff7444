section
-- ===== PART A: goes FIRST, ahead of the names: the tables' words, and 'selects' of the private methods out of them =====
/-- a private method of a class that the tables say can be made, by its rows of tables_1 -/
def lw_okq (q : MethodName × Nat) : Prop := (q.1.cls ≠ "java/lang/invoke/MethodHandle" ∧ q.1.cls ≠ "java/lang/invoke/VarHandle") ∧ Cond.instantiable q.1.cls q.2 ∈ tables_1 ∧ Cond.privateMethod q.1 ∈ tables_1 ∧ Cond.instanceMethod q.1 ∈ tables_1
theorem lw_p0 : lw_okq (⟨"TideTable$Page", "canEndAhead", "(I)Z"⟩, 4) := ⟨⟨by decide +kernel, by decide +kernel⟩, List.mem_of_getElem? (i := 23) (by decide +kernel), List.mem_of_getElem? (i := 172) (by decide +kernel), List.mem_of_getElem? (i := 173) (by decide +kernel)⟩
theorem lw_p1 : lw_okq (⟨"TideTable$Page", "fits", "(I)Z"⟩, 4) := ⟨⟨by decide +kernel, by decide +kernel⟩, List.mem_of_getElem? (i := 23) (by decide +kernel), List.mem_of_getElem? (i := 176) (by decide +kernel), List.mem_of_getElem? (i := 177) (by decide +kernel)⟩
theorem lw_p2 : lw_okq (⟨"TideTable$Page", "readPort", "(ILTideTable$Port;)I"⟩, 4) := ⟨⟨by decide +kernel, by decide +kernel⟩, List.mem_of_getElem? (i := 23) (by decide +kernel), List.mem_of_getElem? (i := 285) (by decide +kernel), List.mem_of_getElem? (i := 286) (by decide +kernel)⟩
theorem lw_p3 : lw_okq (⟨"TideTable$Page", "numberAt", "(I)I"⟩, 4) := ⟨⟨by decide +kernel, by decide +kernel⟩, List.mem_of_getElem? (i := 23) (by decide +kernel), List.mem_of_getElem? (i := 289) (by decide +kernel), List.mem_of_getElem? (i := 290) (by decide +kernel)⟩
theorem lw_p4 : lw_okq (⟨"TideTable", "placeOfTide", "(I)I"⟩, 7) := ⟨⟨by decide +kernel, by decide +kernel⟩, List.mem_of_getElem? (i := 15) (by decide +kernel), List.mem_of_getElem? (i := 399) (by decide +kernel), List.mem_of_getElem? (i := 400) (by decide +kernel)⟩
theorem lw_p5 : lw_okq (⟨"TideTable", "turnAt", "(I)I"⟩, 7) := ⟨⟨by decide +kernel, by decide +kernel⟩, List.mem_of_getElem? (i := 15) (by decide +kernel), List.mem_of_getElem? (i := 403) (by decide +kernel), List.mem_of_getElem? (i := 404) (by decide +kernel)⟩
theorem lw_p6 : lw_okq (⟨"TideTable", "firstOfGate", "(II)I"⟩, 7) := ⟨⟨by decide +kernel, by decide +kernel⟩, List.mem_of_getElem? (i := 15) (by decide +kernel), List.mem_of_getElem? (i := 414) (by decide +kernel), List.mem_of_getElem? (i := 415) (by decide +kernel)⟩
theorem lw_p7 : lw_okq (⟨"TideTable", "lastOfGate", "(II)I"⟩, 7) := ⟨⟨by decide +kernel, by decide +kernel⟩, List.mem_of_getElem? (i := 15) (by decide +kernel), List.mem_of_getElem? (i := 418) (by decide +kernel), List.mem_of_getElem? (i := 419) (by decide +kernel)⟩
theorem lw_p8 : lw_okq (⟨"TideTable", "tripFrom", "(II)I"⟩, 7) := ⟨⟨by decide +kernel, by decide +kernel⟩, List.mem_of_getElem? (i := 15) (by decide +kernel), List.mem_of_getElem? (i := 438) (by decide +kernel), List.mem_of_getElem? (i := 439) (by decide +kernel)⟩
theorem lw_p9 : lw_okq (⟨"TideTable", "withPort", "(JI)J"⟩, 7) := ⟨⟨by decide +kernel, by decide +kernel⟩, List.mem_of_getElem? (i := 15) (by decide +kernel), List.mem_of_getElem? (i := 533) (by decide +kernel), List.mem_of_getElem? (i := 534) (by decide +kernel)⟩
theorem lw_p10 : lw_okq (⟨"TideTableModel", "read", "()I"⟩, 39) := ⟨⟨by decide +kernel, by decide +kernel⟩, List.mem_of_getElem? (i := 546) (by decide +kernel), List.mem_of_getElem? (i := 688) (by decide +kernel), List.mem_of_getElem? (i := 689) (by decide +kernel)⟩
theorem lw_p11 : lw_okq (⟨"TideTableModel", "readPort", "(I)I"⟩, 39) := ⟨⟨by decide +kernel, by decide +kernel⟩, List.mem_of_getElem? (i := 546) (by decide +kernel), List.mem_of_getElem? (i := 692) (by decide +kernel), List.mem_of_getElem? (i := 693) (by decide +kernel)⟩
theorem lw_p12 : lw_okq (⟨"TideTableModel", "at", "(I)I"⟩, 39) := ⟨⟨by decide +kernel, by decide +kernel⟩, List.mem_of_getElem? (i := 546) (by decide +kernel), List.mem_of_getElem? (i := 696) (by decide +kernel), List.mem_of_getElem? (i := 697) (by decide +kernel)⟩
theorem lw_p13 : lw_okq (⟨"TideTableModel", "readNumber", "(III)I"⟩, 39) := ⟨⟨by decide +kernel, by decide +kernel⟩, List.mem_of_getElem? (i := 546) (by decide +kernel), List.mem_of_getElem? (i := 703) (by decide +kernel), List.mem_of_getElem? (i := 704) (by decide +kernel)⟩
theorem lw_p14 : lw_okq (⟨"TideTableModel", "isFigure", "(I)Z"⟩, 39) := ⟨⟨by decide +kernel, by decide +kernel⟩, List.mem_of_getElem? (i := 546) (by decide +kernel), List.mem_of_getElem? (i := 707) (by decide +kernel), List.mem_of_getElem? (i := 708) (by decide +kernel)⟩
theorem lw_p15 : lw_okq (⟨"TideTableModel", "readWave", "(I)I"⟩, 39) := ⟨⟨by decide +kernel, by decide +kernel⟩, List.mem_of_getElem? (i := 546) (by decide +kernel), List.mem_of_getElem? (i := 711) (by decide +kernel), List.mem_of_getElem? (i := 712) (by decide +kernel)⟩
def lw_privs_1 : List (MethodName × Nat) := [(⟨"TideTable$Page", "canEndAhead", "(I)Z"⟩, 4), (⟨"TideTable$Page", "fits", "(I)Z"⟩, 4), (⟨"TideTable$Page", "readPort", "(ILTideTable$Port;)I"⟩, 4), (⟨"TideTable$Page", "numberAt", "(I)I"⟩, 4), (⟨"TideTable", "placeOfTide", "(I)I"⟩, 7), (⟨"TideTable", "turnAt", "(I)I"⟩, 7), (⟨"TideTable", "firstOfGate", "(II)I"⟩, 7), (⟨"TideTable", "lastOfGate", "(II)I"⟩, 7), (⟨"TideTable", "tripFrom", "(II)I"⟩, 7), (⟨"TideTable", "withPort", "(JI)J"⟩, 7), (⟨"TideTableModel", "read", "()I"⟩, 39), (⟨"TideTableModel", "readPort", "(I)I"⟩, 39), (⟨"TideTableModel", "at", "(I)I"⟩, 39), (⟨"TideTableModel", "readNumber", "(III)I"⟩, 39), (⟨"TideTableModel", "isFigure", "(I)Z"⟩, 39), (⟨"TideTableModel", "readWave", "(I)I"⟩, 39)]
theorem lw_r1 : ∀ q ∈ lw_privs_1, lw_okq q := List.forall_mem_cons.mpr ⟨lw_p0, List.forall_mem_cons.mpr ⟨lw_p1, List.forall_mem_cons.mpr ⟨lw_p2, List.forall_mem_cons.mpr ⟨lw_p3, List.forall_mem_cons.mpr ⟨lw_p4, List.forall_mem_cons.mpr ⟨lw_p5, List.forall_mem_cons.mpr ⟨lw_p6, List.forall_mem_cons.mpr ⟨lw_p7, List.forall_mem_cons.mpr ⟨lw_p8, List.forall_mem_cons.mpr ⟨lw_p9, List.forall_mem_cons.mpr ⟨lw_p10, List.forall_mem_cons.mpr ⟨lw_p11, List.forall_mem_cons.mpr ⟨lw_p12, List.forall_mem_cons.mpr ⟨lw_p13, List.forall_mem_cons.mpr ⟨lw_p14, List.forall_mem_cons.mpr ⟨lw_p15, fun _ h => absurd h List.not_mem_nil⟩⟩⟩⟩⟩⟩⟩⟩⟩⟩⟩⟩⟩⟩⟩⟩
theorem lw_p16 : lw_okq (⟨"TideTableModel", "isPort", "(I)Z"⟩, 39) := ⟨⟨by decide +kernel, by decide +kernel⟩, List.mem_of_getElem? (i := 546) (by decide +kernel), List.mem_of_getElem? (i := 723) (by decide +kernel), List.mem_of_getElem? (i := 724) (by decide +kernel)⟩
theorem lw_p17 : lw_okq (⟨"TideTableModel", "portNow", "(II)I"⟩, 39) := ⟨⟨by decide +kernel, by decide +kernel⟩, List.mem_of_getElem? (i := 546) (by decide +kernel), List.mem_of_getElem? (i := 727) (by decide +kernel), List.mem_of_getElem? (i := 728) (by decide +kernel)⟩
theorem lw_p18 : lw_okq (⟨"TideTableModel", "sortsOf", "(I)I"⟩, 39) := ⟨⟨by decide +kernel, by decide +kernel⟩, List.mem_of_getElem? (i := 546) (by decide +kernel), List.mem_of_getElem? (i := 731) (by decide +kernel), List.mem_of_getElem? (i := 732) (by decide +kernel)⟩
theorem lw_p19 : lw_okq (⟨"TideTableModel", "askOf", "(I)I"⟩, 39) := ⟨⟨by decide +kernel, by decide +kernel⟩, List.mem_of_getElem? (i := 546) (by decide +kernel), List.mem_of_getElem? (i := 738) (by decide +kernel), List.mem_of_getElem? (i := 739) (by decide +kernel)⟩
theorem lw_p20 : lw_okq (⟨"TideTableModel", "isWave", "(II)Z"⟩, 39) := ⟨⟨by decide +kernel, by decide +kernel⟩, List.mem_of_getElem? (i := 546) (by decide +kernel), List.mem_of_getElem? (i := 753) (by decide +kernel), List.mem_of_getElem? (i := 754) (by decide +kernel)⟩
theorem lw_p21 : lw_okq (⟨"TideTableModel", "waveNow", "(III)I"⟩, 39) := ⟨⟨by decide +kernel, by decide +kernel⟩, List.mem_of_getElem? (i := 546) (by decide +kernel), List.mem_of_getElem? (i := 757) (by decide +kernel), List.mem_of_getElem? (i := 758) (by decide +kernel)⟩
theorem lw_p22 : lw_okq (⟨"TideTableModel", "sumAt", "(II)I"⟩, 39) := ⟨⟨by decide +kernel, by decide +kernel⟩, List.mem_of_getElem? (i := 546) (by decide +kernel), List.mem_of_getElem? (i := 776) (by decide +kernel), List.mem_of_getElem? (i := 777) (by decide +kernel)⟩
theorem lw_p23 : lw_okq (⟨"TideTableModel", "turnAt", "(I)I"⟩, 39) := ⟨⟨by decide +kernel, by decide +kernel⟩, List.mem_of_getElem? (i := 546) (by decide +kernel), List.mem_of_getElem? (i := 780) (by decide +kernel), List.mem_of_getElem? (i := 781) (by decide +kernel)⟩
theorem lw_p24 : lw_okq (⟨"TideTableModel", "heightAt", "(II)I"⟩, 39) := ⟨⟨by decide +kernel, by decide +kernel⟩, List.mem_of_getElem? (i := 546) (by decide +kernel), List.mem_of_getElem? (i := 791) (by decide +kernel), List.mem_of_getElem? (i := 792) (by decide +kernel)⟩
theorem lw_p25 : lw_okq (⟨"TideTableModel", "ownHeight", "(II)I"⟩, 39) := ⟨⟨by decide +kernel, by decide +kernel⟩, List.mem_of_getElem? (i := 546) (by decide +kernel), List.mem_of_getElem? (i := 795) (by decide +kernel), List.mem_of_getElem? (i := 796) (by decide +kernel)⟩
theorem lw_p26 : lw_okq (⟨"TideTableModel", "silled", "(II)I"⟩, 39) := ⟨⟨by decide +kernel, by decide +kernel⟩, List.mem_of_getElem? (i := 546) (by decide +kernel), List.mem_of_getElem? (i := 799) (by decide +kernel), List.mem_of_getElem? (i := 800) (by decide +kernel)⟩
theorem lw_p27 : lw_okq (⟨"TideTableModel", "tideNow", "(IIII)I"⟩, 39) := ⟨⟨by decide +kernel, by decide +kernel⟩, List.mem_of_getElem? (i := 546) (by decide +kernel), List.mem_of_getElem? (i := 810) (by decide +kernel), List.mem_of_getElem? (i := 811) (by decide +kernel)⟩
theorem lw_p28 : lw_okq (⟨"TideTableModel", "turnsAt", "(II)I"⟩, 39) := ⟨⟨by decide +kernel, by decide +kernel⟩, List.mem_of_getElem? (i := 546) (by decide +kernel), List.mem_of_getElem? (i := 814) (by decide +kernel), List.mem_of_getElem? (i := 815) (by decide +kernel)⟩
theorem lw_p29 : lw_okq (⟨"TideTableModel", "then", "(II)I"⟩, 39) := ⟨⟨by decide +kernel, by decide +kernel⟩, List.mem_of_getElem? (i := 546) (by decide +kernel), List.mem_of_getElem? (i := 818) (by decide +kernel), List.mem_of_getElem? (i := 819) (by decide +kernel)⟩
theorem lw_p30 : lw_okq (⟨"TideTableModel", "gateNow", "(IIIII)I"⟩, 39) := ⟨⟨by decide +kernel, by decide +kernel⟩, List.mem_of_getElem? (i := 546) (by decide +kernel), List.mem_of_getElem? (i := 829) (by decide +kernel), List.mem_of_getElem? (i := 830) (by decide +kernel)⟩
theorem lw_p31 : lw_okq (⟨"TideTableModel", "dryNow", "(III)I"⟩, 39) := ⟨⟨by decide +kernel, by decide +kernel⟩, List.mem_of_getElem? (i := 546) (by decide +kernel), List.mem_of_getElem? (i := 837) (by decide +kernel), List.mem_of_getElem? (i := 838) (by decide +kernel)⟩
def lw_privs_2 : List (MethodName × Nat) := [(⟨"TideTableModel", "isPort", "(I)Z"⟩, 39), (⟨"TideTableModel", "portNow", "(II)I"⟩, 39), (⟨"TideTableModel", "sortsOf", "(I)I"⟩, 39), (⟨"TideTableModel", "askOf", "(I)I"⟩, 39), (⟨"TideTableModel", "isWave", "(II)Z"⟩, 39), (⟨"TideTableModel", "waveNow", "(III)I"⟩, 39), (⟨"TideTableModel", "sumAt", "(II)I"⟩, 39), (⟨"TideTableModel", "turnAt", "(I)I"⟩, 39), (⟨"TideTableModel", "heightAt", "(II)I"⟩, 39), (⟨"TideTableModel", "ownHeight", "(II)I"⟩, 39), (⟨"TideTableModel", "silled", "(II)I"⟩, 39), (⟨"TideTableModel", "tideNow", "(IIII)I"⟩, 39), (⟨"TideTableModel", "turnsAt", "(II)I"⟩, 39), (⟨"TideTableModel", "then", "(II)I"⟩, 39), (⟨"TideTableModel", "gateNow", "(IIIII)I"⟩, 39), (⟨"TideTableModel", "dryNow", "(III)I"⟩, 39)]
theorem lw_r2 : ∀ q ∈ lw_privs_2, lw_okq q := List.forall_mem_cons.mpr ⟨lw_p16, List.forall_mem_cons.mpr ⟨lw_p17, List.forall_mem_cons.mpr ⟨lw_p18, List.forall_mem_cons.mpr ⟨lw_p19, List.forall_mem_cons.mpr ⟨lw_p20, List.forall_mem_cons.mpr ⟨lw_p21, List.forall_mem_cons.mpr ⟨lw_p22, List.forall_mem_cons.mpr ⟨lw_p23, List.forall_mem_cons.mpr ⟨lw_p24, List.forall_mem_cons.mpr ⟨lw_p25, List.forall_mem_cons.mpr ⟨lw_p26, List.forall_mem_cons.mpr ⟨lw_p27, List.forall_mem_cons.mpr ⟨lw_p28, List.forall_mem_cons.mpr ⟨lw_p29, List.forall_mem_cons.mpr ⟨lw_p30, List.forall_mem_cons.mpr ⟨lw_p31, fun _ h => absurd h List.not_mem_nil⟩⟩⟩⟩⟩⟩⟩⟩⟩⟩⟩⟩⟩⟩⟩⟩
theorem lw_p32 : lw_okq (⟨"TideTableModel", "streamAt", "(III)I"⟩, 39) := ⟨⟨by decide +kernel, by decide +kernel⟩, List.mem_of_getElem? (i := 546) (by decide +kernel), List.mem_of_getElem? (i := 845) (by decide +kernel), List.mem_of_getElem? (i := 846) (by decide +kernel)⟩
theorem lw_p33 : lw_okq (⟨"TideTableModel", "slackNow", "(III)I"⟩, 39) := ⟨⟨by decide +kernel, by decide +kernel⟩, List.mem_of_getElem? (i := 546) (by decide +kernel), List.mem_of_getElem? (i := 853) (by decide +kernel), List.mem_of_getElem? (i := 854) (by decide +kernel)⟩
theorem lw_p34 : lw_okq (⟨"TideTableModel", "tripNow", "(IIII)I"⟩, 39) := ⟨⟨by decide +kernel, by decide +kernel⟩, List.mem_of_getElem? (i := 546) (by decide +kernel), List.mem_of_getElem? (i := 864) (by decide +kernel), List.mem_of_getElem? (i := 865) (by decide +kernel)⟩
theorem lw_p35 : lw_okq (⟨"TideTableModel", "leaveNow", "(IIIII)I"⟩, 39) := ⟨⟨by decide +kernel, by decide +kernel⟩, List.mem_of_getElem? (i := 546) (by decide +kernel), List.mem_of_getElem? (i := 872) (by decide +kernel), List.mem_of_getElem? (i := 873) (by decide +kernel)⟩
theorem lw_p36 : lw_okq (⟨"TideTableModel", "drawnNow", "(III)I"⟩, 39) := ⟨⟨by decide +kernel, by decide +kernel⟩, List.mem_of_getElem? (i := 546) (by decide +kernel), List.mem_of_getElem? (i := 915) (by decide +kernel), List.mem_of_getElem? (i := 916) (by decide +kernel)⟩
theorem lw_p37 : lw_okq (⟨"TideTableModel", "draw", "(I)I"⟩, 39) := ⟨⟨by decide +kernel, by decide +kernel⟩, List.mem_of_getElem? (i := 546) (by decide +kernel), List.mem_of_getElem? (i := 919) (by decide +kernel), List.mem_of_getElem? (i := 920) (by decide +kernel)⟩
theorem lw_p38 : lw_okq (⟨"TideTableModel", "howMany", "(I)I"⟩, 39) := ⟨⟨by decide +kernel, by decide +kernel⟩, List.mem_of_getElem? (i := 546) (by decide +kernel), List.mem_of_getElem? (i := 939) (by decide +kernel), List.mem_of_getElem? (i := 940) (by decide +kernel)⟩
theorem lw_p39 : lw_okq (⟨"TideTableModel", "ofPorts", "(I)I"⟩, 39) := ⟨⟨by decide +kernel, by decide +kernel⟩, List.mem_of_getElem? (i := 546) (by decide +kernel), List.mem_of_getElem? (i := 943) (by decide +kernel), List.mem_of_getElem? (i := 944) (by decide +kernel)⟩
theorem lw_p40 : lw_okq (⟨"TideTableModel", "greatest", "()I"⟩, 39) := ⟨⟨by decide +kernel, by decide +kernel⟩, List.mem_of_getElem? (i := 546) (by decide +kernel), List.mem_of_getElem? (i := 947) (by decide +kernel), List.mem_of_getElem? (i := 948) (by decide +kernel)⟩
theorem lw_p41 : lw_okq (⟨"TideTableModel", "mix", "(J)V"⟩, 39) := ⟨⟨by decide +kernel, by decide +kernel⟩, List.mem_of_getElem? (i := 546) (by decide +kernel), List.mem_of_getElem? (i := 957) (by decide +kernel), List.mem_of_getElem? (i := 958) (by decide +kernel)⟩
def lw_privs_3 : List (MethodName × Nat) := [(⟨"TideTableModel", "streamAt", "(III)I"⟩, 39), (⟨"TideTableModel", "slackNow", "(III)I"⟩, 39), (⟨"TideTableModel", "tripNow", "(IIII)I"⟩, 39), (⟨"TideTableModel", "leaveNow", "(IIIII)I"⟩, 39), (⟨"TideTableModel", "drawnNow", "(III)I"⟩, 39), (⟨"TideTableModel", "draw", "(I)I"⟩, 39), (⟨"TideTableModel", "howMany", "(I)I"⟩, 39), (⟨"TideTableModel", "ofPorts", "(I)I"⟩, 39), (⟨"TideTableModel", "greatest", "()I"⟩, 39), (⟨"TideTableModel", "mix", "(J)V"⟩, 39)]
theorem lw_r3 : ∀ q ∈ lw_privs_3, lw_okq q := List.forall_mem_cons.mpr ⟨lw_p32, List.forall_mem_cons.mpr ⟨lw_p33, List.forall_mem_cons.mpr ⟨lw_p34, List.forall_mem_cons.mpr ⟨lw_p35, List.forall_mem_cons.mpr ⟨lw_p36, List.forall_mem_cons.mpr ⟨lw_p37, List.forall_mem_cons.mpr ⟨lw_p38, List.forall_mem_cons.mpr ⟨lw_p39, List.forall_mem_cons.mpr ⟨lw_p40, List.forall_mem_cons.mpr ⟨lw_p41, fun _ h => absurd h List.not_mem_nil⟩⟩⟩⟩⟩⟩⟩⟩⟩⟩
def lw_privs : List (MethodName × Nat) := lw_privs_1 ++ (lw_privs_2 ++ (lw_privs_3))
def lw_tbl : List Cond := k2_sels lw_privs ++ tables_1
theorem lw_privs_ok : ∀ q ∈ lw_privs, lw_okq q := by
  show ∀ q ∈ lw_privs_1 ++ (lw_privs_2 ++ (lw_privs_3)), lw_okq q
  exact List.forall_mem_append.mpr ⟨lw_r1, List.forall_mem_append.mpr ⟨lw_r2, lw_r3⟩⟩
-- ===== end of PART A; then your names; then what follows =====
def tt_good : List Cond := lw_tbl.filter goodWord

theorem tt_glen : tt_good.length = 951 := by decide +kernel
end
section
/-! the classes, by program out of the claim's names -/
def R_Pg : String := "TideTable$Page"
def F_Pg : u_T := fun k => match k with
  | 0 => ("TideTable$Page", "codes", "[I", true)
  | 1 => ("TideTable$Page", "many", "I", false)
  | 2 => ("TideTable$Page", "start", "I", false)
  | _ => ("TideTable$Page", "number", "I", false)
def t_Pg : Nat → FieldType := fun k => match k with
  | 0 => .array .int
  | 1 => .int
  | 2 => .int
  | _ => .int
theorem n_Pg : ∀ a, a < 4 → ∀ b, b < 4 → a ≠ b → (F_Pg a).2.1 ≠ (F_Pg b).2.1 := by decide +kernel
theorem t_Pg_ok : ∀ k, k < 4 → parseFieldDescriptor (F_Pg k).2.2.1 = some (t_Pg k) := by decide +kernel
theorem i_Pg : ∀ w ∈ u_ws R_Pg F_Pg 4, w ∈ tt_good := by decide +kernel
def R_Po : String := "TideTable$Port"
def F_Po : u_T := fun k => match k with
  | 0 => ("TideTable$Port", "kind", "I", false)
  | 1 => ("TideTable$Port", "mean", "I", false)
  | 2 => ("TideTable$Port", "mark", "I", false)
  | 3 => ("TideTable$Port", "ratio", "I", false)
  | 4 => ("TideTable$Port", "sorts", "I", false)
  | 5 => ("TideTable$Port", "waves", "[LTideTable$Wave;", true)
  | _ => ("TideTable$Port", "many", "I", false)
def t_Po : Nat → FieldType := fun k => match k with
  | 0 => .int
  | 1 => .int
  | 2 => .int
  | 3 => .int
  | 4 => .int
  | 5 => .array (.object "TideTable$Wave")
  | _ => .int
theorem n_Po : ∀ a, a < 7 → ∀ b, b < 7 → a ≠ b → (F_Po a).2.1 ≠ (F_Po b).2.1 := by decide +kernel
theorem t_Po_ok : ∀ k, k < 7 → parseFieldDescriptor (F_Po k).2.2.1 = some (t_Po k) := by decide +kernel
theorem i_Po : ∀ w ∈ u_ws R_Po F_Po 7, w ∈ tt_good := by decide +kernel
def R_Se : String := "TideTable$Sea"
def F_Se : u_T := fun k => match k with
  | 0 => ("TideTable$Sea", "harbours", "[LTideTable$Port;", true)
  | 1 => ("TideTable$Sea", "many", "I", false)
  | _ => ("TideTable$Sea", "seen", "I", false)
def t_Se : Nat → FieldType := fun k => match k with
  | 0 => .array (.object "TideTable$Port")
  | 1 => .int
  | _ => .int
theorem n_Se : ∀ a, a < 3 → ∀ b, b < 3 → a ≠ b → (F_Se a).2.1 ≠ (F_Se b).2.1 := by decide +kernel
theorem t_Se_ok : ∀ k, k < 3 → parseFieldDescriptor (F_Se k).2.2.1 = some (t_Se k) := by decide +kernel
theorem i_Se : ∀ w ∈ u_ws R_Se F_Se 3, w ∈ tt_good := by decide +kernel
def R_Wa : String := "TideTable$Wave"
def F_Wa : u_T := fun k => match k with
  | 0 => ("TideTable$Wave", "speed", "I", false)
  | 1 => ("TideTable$Wave", "size", "I", false)
  | _ => ("TideTable$Wave", "start", "I", false)
def t_Wa : Nat → FieldType := fun k => match k with
  | 0 => .int
  | 1 => .int
  | _ => .int
theorem n_Wa : ∀ a, a < 3 → ∀ b, b < 3 → a ≠ b → (F_Wa a).2.1 ≠ (F_Wa b).2.1 := by decide +kernel
theorem t_Wa_ok : ∀ k, k < 3 → parseFieldDescriptor (F_Wa k).2.2.1 = some (t_Wa k) := by decide +kernel
theorem i_Wa : ∀ w ∈ u_ws R_Wa F_Wa 3, w ∈ tt_good := by decide +kernel
def R_Tt : String := "TideTable"
def F_Tt : u_T := fun k => match k with
  | 0 => ("TideTable", "page", "LTideTable$Page;", true)
  | 1 => ("TideTable", "sea", "LTideTable$Sea;", true)
  | 2 => ("TideTable", "kept", "LTideTable$Sea;", true)
  | 3 => ("TideTable", "isKept", "Z", false)
  | 4 => ("TideTable", "readings", "I", false)
  | 5 => ("TideTable", "row", "[I", true)
  | _ => ("TideTable", "otherRow", "[I", true)
def t_Tt : Nat → FieldType := fun k => match k with
  | 0 => .object "TideTable$Page"
  | 1 => .object "TideTable$Sea"
  | 2 => .object "TideTable$Sea"
  | 3 => .boolean
  | 4 => .int
  | 5 => .array .int
  | _ => .array .int
theorem n_Tt : ∀ a, a < 7 → ∀ b, b < 7 → a ≠ b → (F_Tt a).2.1 ≠ (F_Tt b).2.1 := by decide +kernel
theorem t_Tt_ok : ∀ k, k < 7 → parseFieldDescriptor (F_Tt k).2.2.1 = some (t_Tt k) := by decide +kernel
theorem i_Tt : ∀ w ∈ u_ws R_Tt F_Tt 7, w ∈ tt_good := by decide +kernel
def R_Mo : String := "TideTableModel"
def F_Mo : u_T := fun k => match k with
  | 0 => ("TideTableModel", "reads", "I", false)
  | 1 => ("TideTableModel", "ports", "I", false)
  | 2 => ("TideTableModel", "kindOf", "[I", true)
  | 3 => ("TideTableModel", "mean", "[I", true)
  | 4 => ("TideTableModel", "mark", "[I", true)
  | 5 => ("TideTableModel", "ratio", "[I", true)
  | 6 => ("TideTableModel", "waves", "[I", true)
  | 7 => ("TideTableModel", "wave", "[I", true)
  | 8 => ("TideTableModel", "rounds", "[I", true)
  | 9 => ("TideTableModel", "seen", "I", false)
  | 10 => ("TideTableModel", "seenPort", "[I", true)
  | 11 => ("TideTableModel", "seenWhat", "[I", true)
  | 12 => ("TideTableModel", "seenCould", "[I", true)
  | 13 => ("TideTableModel", "pageLength", "I", false)
  | 14 => ("TideTableModel", "page", "[B", true)
  | 15 => ("TideTableModel", "isWhole", "Z", false)
  | 16 => ("TideTableModel", "isBroken", "Z", false)
  | 17 => ("TideTableModel", "newPorts", "I", false)
  | 18 => ("TideTableModel", "newKind", "[I", true)
  | 19 => ("TideTableModel", "newMean", "[I", true)
  | 20 => ("TideTableModel", "newMark", "[I", true)
  | 21 => ("TideTableModel", "newRatio", "[I", true)
  | 22 => ("TideTableModel", "newWaves", "[I", true)
  | 23 => ("TideTableModel", "newWave", "[I", true)
  | 24 => ("TideTableModel", "number", "I", false)
  | 25 => ("TideTableModel", "seedNow", "J", false)
  | 26 => ("TideTableModel", "isKept", "Z", false)
  | 27 => ("TideTableModel", "keptReads", "I", false)
  | 28 => ("TideTableModel", "keptSeen", "I", false)
  | 29 => ("TideTableModel", "keptKind", "[I", true)
  | 30 => ("TideTableModel", "keptMean", "[I", true)
  | 31 => ("TideTableModel", "keptMark", "[I", true)
  | 32 => ("TideTableModel", "keptRatio", "[I", true)
  | 33 => ("TideTableModel", "keptWaves", "[I", true)
  | 34 => ("TideTableModel", "keptWave", "[I", true)
  | 35 => ("TideTableModel", "keptPort", "[I", true)
  | 36 => ("TideTableModel", "keptWhat", "[I", true)
  | 37 => ("TideTableModel", "keptCould", "[I", true)
  | _ => ("TideTableModel", "h", "J", false)
def t_Mo : Nat → FieldType := fun k => match k with
  | 0 => .int
  | 1 => .int
  | 2 => .array .int
  | 3 => .array .int
  | 4 => .array .int
  | 5 => .array .int
  | 6 => .array .int
  | 7 => .array .int
  | 8 => .array .int
  | 9 => .int
  | 10 => .array .int
  | 11 => .array .int
  | 12 => .array .int
  | 13 => .int
  | 14 => .array .byte
  | 15 => .boolean
  | 16 => .boolean
  | 17 => .int
  | 18 => .array .int
  | 19 => .array .int
  | 20 => .array .int
  | 21 => .array .int
  | 22 => .array .int
  | 23 => .array .int
  | 24 => .int
  | 25 => .long
  | 26 => .boolean
  | 27 => .int
  | 28 => .int
  | 29 => .array .int
  | 30 => .array .int
  | 31 => .array .int
  | 32 => .array .int
  | 33 => .array .int
  | 34 => .array .int
  | 35 => .array .int
  | 36 => .array .int
  | 37 => .array .int
  | _ => .long
theorem n_Mo : ∀ a, a < 39 → ∀ b, b < 39 → a ≠ b → (F_Mo a).2.1 ≠ (F_Mo b).2.1 := by decide +kernel
theorem t_Mo_ok : ∀ k, k < 39 → parseFieldDescriptor (F_Mo k).2.2.1 = some (t_Mo k) := by decide +kernel
theorem i_Mo : ∀ w ∈ u_ws R_Mo F_Mo 39, w ∈ tt_good := by decide +kernel
abbrev tt_cl : List vw_C := [(R_Pg, F_Pg, 4), (R_Po, F_Po, 7), (R_Se, F_Se, 3), (R_Wa, F_Wa, 3), (R_Tt, F_Tt, 7), (R_Mo, F_Mo, 39)]
def tt_kd (ci f : Nat) : Nat := (([[1, 0, 0, 0], [0, 0, 0, 0, 0, 1, 0], [1, 0, 0], [0, 0, 0], [1, 1, 1, 0, 0, 1, 1], [0, 0, 1, 1, 1, 1, 1, 1, 1, 0, 1, 1, 1, 0, 1, 0, 0, 0, 1, 1, 1, 1, 1, 1, 0, 2, 0, 0, 0, 1, 1, 1, 1, 1, 1, 1, 1, 1, 2]] : List (List Nat)).getD ci []).getD f 9
def tt_nf (ci : Nat) : Nat := ([4, 7, 3, 3, 7, 39] : List Nat).getD ci 0
def tt_ci (k : Nat) : Nat := ([4, 0, 9, 2, 2, 9, 9, 9, 9, 1, 1, 1, 1, 1, 1, 1, 1, 9, 9, 9, 9, 9, 9, 9, 9, 3, 3, 3, 3, 3, 3, 3, 3, 3, 3, 3, 3, 3, 3, 3, 3, 3, 3, 3, 3, 3, 3, 3, 3, 5, 9, 9, 9, 9, 9, 9, 9, 9, 9, 9, 9, 9, 9, 9, 9, 9, 9, 9, 9, 9, 9, 9, 9, 9, 9, 9] : List Nat).getD k 9
def tt_len (k : Nat) : Nat := ([0, 0, 96, 0, 0, 4, 4, 344, 344, 0, 0, 0, 0, 0, 0, 0, 0, 3, 3, 3, 3, 3, 3, 3, 3, 0, 0, 0, 0, 0, 0, 0, 0, 0, 0, 0, 0, 0, 0, 0, 0, 0, 0, 0, 0, 0, 0, 0, 0, 0, 4, 4, 4, 4, 4, 36, 65, 6, 6, 6, 96, 4, 4, 4, 4, 4, 36, 4, 4, 4, 4, 4, 36, 6, 6, 6] : List Nat).getD k 0
def tt_mR (f : Nat) : Nat := ([0, 0, 50, 51, 52, 53, 54, 55, 56, 0, 57, 58, 59, 0, 60, 0, 0, 0, 61, 62, 63, 64, 65, 66, 0, 0, 0, 0, 0, 67, 68, 69, 70, 71, 72, 73, 74, 75, 0] : List Nat).getD f 0
def tt_R (k f : Nat) : Nat := if k = 49 then tt_mR f else if 9 ≤ k then k + 8 else if k = 0 then ([1, 3, 4, 0, 0, 7, 8] : List Nat).getD f 0 else if k = 1 then 2 else k + 2
def tt_RA (k j : Nat) : Nat := if k = 5 then 9 + j else if k = 6 then 13 + j else 25 + 3 * (k - 17) + j
def tt_at (k : Nat) : Nat := if k = 60 then 1 else if k = 5 then 2 else if k = 6 then 2 else if 17 ≤ k ∧ k < 25 then 3 else 0
/-- the state: ints of the objects' fields, longs of them, ints of the arrays -/
abbrev tt_St : Type := (Nat → Nat → Int32) × (Nat → Nat → Int64) × (Nat → Nat → Int32)
def tt_I (st : tt_St) (o f : Nat) : Int32 := st.1 o f
def tt_L (st : tt_St) (o f : Nat) : Int64 := st.2.1 o f
def tt_A (st : tt_St) (a j : Nat) : Int32 := st.2.2 a j
def tt_pI (st : tt_St) (o f : Nat) (v : Int32) : tt_St := (fun o' f' => if o' = o ∧ f' = f then v else st.1 o' f', st.2.1, st.2.2)
def tt_pL (st : tt_St) (o f : Nat) (v : Int64) : tt_St := (st.1, fun o' f' => if o' = o ∧ f' = f then v else st.2.1 o' f', st.2.2)
def tt_pA (st : tt_St) (a j : Nat) (v : Int32) : tt_St := (st.1, st.2.1, fun a' j' => if a' = a ∧ j' = j then v else st.2.2 a' j')
/-- the world's constants: classes and slots, where each cell lies, the arrays' classes, where the constants lie -/
abbrev tt_G : Type := va_G × (Nat → Nat) × (Nat → ClassId) × (Nat → Nat)
def tt_ad (G : tt_G) (k : Nat) : Nat := G.2.1 k
def tt_cA (G : tt_G) (k : Nat) : ClassId := G.2.2.1 k
def tt_sa (G : tt_G) (k : Nat) : Nat := G.2.2.2 k
def tt_tys (G : tt_G) : List (ClassId × FieldType) := [(tt_cA G 0, .int), (tt_cA G 1, .byte), (tt_cA G 2, .object "TideTable$Port"), (tt_cA G 3, .object "TideTable$Wave")]
def tt_fv (G : tt_G) (st : tt_St) (k f : Nat) : Value := if tt_kd (tt_ci k) f = 0 then .int (tt_I st k f) else if tt_kd (tt_ci k) f = 1 then .ref (tt_ad G (tt_R k f)) else .long (tt_L st k f)
def tt_fs (G : tt_G) (st : tt_St) (k : Nat) : List Value := (List.range (tt_nf (tt_ci k))).map (tt_fv G st k)
def tt_E (G : tt_G) (st : tt_St) (k : Nat) : va_E :=
  if tt_ci k < 6 then .inr (tt_ci k, tt_fs G st k) else if tt_at k ≤ 1 then .inl (tt_cA G (tt_at k), tt_len k, .inl (tt_A st k)) else .inl (tt_cA G (tt_at k), tt_len k, .inr (.inr (.inr (.inr (fun j => some (tt_ad G (tt_RA k j)))))))
def tt_ws (G : tt_G) (st : tt_St) : va_W := (List.range 76).map (fun k => (tt_ad G k, tt_E G st k))
def tt_Ad (G : tt_G) : Nat → Prop := fun q => ∃ k, k < 76 ∧ q = tt_ad G k
def tt_J (G : tt_G) : Prop := ∀ i j, i < 76 → j < 76 → tt_ad G i = tt_ad G j → i = j
theorem tt_ws_get (G : tt_G) (st : tt_St) {k : Nat} (h : k < 76) : (tt_ws G st)[k]? = some (tt_ad G k, tt_E G st k) := by
  rw [tt_ws, List.getElem?_map, List.getElem?_range h]; rfl
theorem tt_ws_lt {G : tt_G} {st : tt_St} {k : Nat} {q : Nat × va_E} (h : (tt_ws G st)[k]? = some q) : k < 76 ∧ q = (tt_ad G k, tt_E G st k) := by
  have h1 := (List.getElem?_eq_some_iff.mp h).1
  have h2 : k < 76 := by simpa [tt_ws] using h1
  rw [tt_ws_get G st h2] at h
  exact ⟨h2, (Option.some.inj h).symm⟩
theorem tt_ws_set {G : tt_G} {st st' : tt_St} {k : Nat} (h : k < 76) (ho : ∀ j, j ≠ k → tt_E G st' j = tt_E G st j) : (tt_ws G st).set k (tt_ad G k, tt_E G st' k) = tt_ws G st' := by
  apply List.ext_getElem?
  intro i
  have hl : (tt_ws G st).length = 76 := by simp [tt_ws]
  by_cases hi : i < 76
  · rw [tt_ws_get G st' hi, List.getElem?_set]
    by_cases hk : k = i
    · subst hk
      rw [if_pos rfl, if_pos (by rw [hl]; exact h)]
    · rw [if_neg hk, tt_ws_get G st hi, ho i (fun q => hk q.symm)]
  · rw [List.getElem?_eq_none (by rw [List.length_set, hl]; omega), List.getElem?_eq_none (by simp [tt_ws]; omega)]
theorem tt_D {G : tt_G} (hJ : tt_J G) (st : tt_St) : va_D (tt_Ad G) (tt_ws G st) := by
  refine ⟨fun i j p q hi hj hpq => ?_, fun k q hk => ?_⟩
  · obtain ⟨a1, a2⟩ := tt_ws_lt hi
    obtain ⟨b1, b2⟩ := tt_ws_lt hj
    rw [a2, b2] at hpq
    exact hJ i j a1 b1 hpq
  · obtain ⟨a1, a2⟩ := tt_ws_lt hk
    rw [a2]
    exact ⟨k, a1, rfl⟩
theorem tt_ci_lt {k : Nat} (h : tt_ci k < 6) : k < 76 := by
  rcases Nat.lt_or_ge k 76 with q | q
  · exact q
  · unfold tt_ci at h
    rw [List.getD_eq_getElem?_getD, List.getElem?_eq_none (by exact q)] at h
    simp at h
theorem tt_E_obj {G : tt_G} {st : tt_St} {k : Nat} (h : tt_ci k < 6) : tt_E G st k = .inr (tt_ci k, tt_fs G st k) := by rw [tt_E, if_pos h]
theorem tt_fs_get {G : tt_G} {st : tt_St} {k f : Nat} (h : f < tt_nf (tt_ci k)) : (tt_fs G st k)[f]? = some (tt_fv G st k f) := by
  rw [tt_fs, List.getElem?_map, List.getElem?_range h]; rfl
theorem tt_fs_len {G : tt_G} {st : tt_St} {k : Nat} : (tt_fs G st k).length = tt_nf (tt_ci k) := by simp [tt_fs]
theorem tt_E_pI {G : tt_G} {st : tt_St} {k f j : Nat} {v : Int32} (h : j ≠ k) : tt_E G (tt_pI st k f v) j = tt_E G st j := by
  have h1 : tt_fs G (tt_pI st k f v) j = tt_fs G st j := by
    unfold tt_fs
    congr 1
    funext f'
    simp [tt_fv, tt_I, tt_L, tt_pI, h]
  unfold tt_E
  rw [h1]
  rfl
theorem tt_E_pL {G : tt_G} {st : tt_St} {k f j : Nat} {v : Int64} (h : j ≠ k) : tt_E G (tt_pL st k f v) j = tt_E G st j := by
  have h1 : tt_fs G (tt_pL st k f v) j = tt_fs G st j := by
    unfold tt_fs
    congr 1
    funext f'
    simp [tt_fv, tt_I, tt_L, tt_pL, h]
  unfold tt_E
  rw [h1]
  rfl
theorem tt_E_pA {G : tt_G} {st : tt_St} {k i j : Nat} {v : Int32} (h : j ≠ k) : tt_E G (tt_pA st k i v) j = tt_E G st j := by
  have h1 : tt_A (tt_pA st k i v) j = tt_A st j := by
    funext j'
    simp [tt_A, tt_pA, h]
  unfold tt_E
  rw [h1]
  rfl
theorem tt_fs_pI {G : tt_G} {st : tt_St} {k f : Nat} {v : Int32} (hk : tt_kd (tt_ci k) f = 0) : tt_fs G (tt_pI st k f v) k = (tt_fs G st k).set f (.int v) := by
  apply List.ext_getElem?
  intro i
  by_cases hi : i < tt_nf (tt_ci k)
  · rw [tt_fs_get hi, List.getElem?_set]
    by_cases hf : f = i
    · subst hf
      rw [if_pos rfl, if_pos (by rw [tt_fs_len]; exact hi)]
      simp [tt_fv, hk, tt_I, tt_pI]
    · rw [if_neg hf, tt_fs_get hi]
      have : ¬ i = f := fun q => hf q.symm
      simp [tt_fv, tt_I, tt_L, tt_pI, this]
  · rw [List.getElem?_eq_none (by rw [tt_fs_len]; omega), List.getElem?_eq_none (by rw [List.length_set, tt_fs_len]; omega)]
theorem tt_fs_pL {G : tt_G} {st : tt_St} {k f : Nat} {v : Int64} (hk : tt_kd (tt_ci k) f = 2) : tt_fs G (tt_pL st k f v) k = (tt_fs G st k).set f (.long v) := by
  apply List.ext_getElem?
  intro i
  by_cases hi : i < tt_nf (tt_ci k)
  · rw [tt_fs_get hi, List.getElem?_set]
    by_cases hf : f = i
    · subst hf
      rw [if_pos rfl, if_pos (by rw [tt_fs_len]; exact hi)]
      simp [tt_fv, hk, tt_L, tt_pL]
    · rw [if_neg hf, tt_fs_get hi]
      have : ¬ i = f := fun q => hf q.symm
      simp [tt_fv, tt_I, tt_L, tt_pL, this]
  · rw [List.getElem?_eq_none (by rw [tt_fs_len]; omega), List.getElem?_eq_none (by rw [List.length_set, tt_fs_len]; omega)]
theorem tt_A_pA {st : tt_St} {k i : Nat} {v : Int32} : tt_A (tt_pA st k i v) k = upd (tt_A st k) i v := by
  funext j
  simp [tt_A, tt_pA, upd]
end
section
/-! what holds of the constants that lie outside the world: static arrays, the text "psbft", the nest's links -/
def tt_qv (j : Nat) : Int32 := ([1000, 995, 981, 957, 924, 882, 831, 773, 707, 634, 556, 471, 383, 290, 195, 98, 0] : List Int32).getD j 0
def tt_cv (j : Nat) : Int32 := ([6, 4, 8, 16] : List Int32).getD j 0
def tt_dv (j : Nat) : Int32 := ([0, 7, 50, 144, 400, 1439] : List Int32).getD j 0
def tt_kv (j : Nat) : Int32 := ([112, 115, 98, 102, 116] : List Int32).getD j 0
def tt_sv (j i : Nat) : Int32 := if j = 0 then tt_qv i else if j = 1 then tt_cv i else tt_dv i
def tt_sn (j : Nat) : Nat := ([17, 4, 6] : List Nat).getD j 0
def tt_sN (j : Nat) : String := (["QUARTER", "COULD", "DIGEST_TICKS"] : List String).getD j ""
def tt_nest : List Cond := [.methodLinkNest "TideTable" 11 ⟨"TideTable$Page", "<init>", "()V"⟩ "TideTable", .methodLinkNest "TideTable$Port" 21 ⟨"TideTable$Wave", "<init>", "()V"⟩ "TideTable", .methodLinkNest "TideTable$Page" 40 ⟨"TideTable", "within", "(III)Z"⟩ "TideTable", .methodLinkNest "TideTable$Wave" 19 ⟨"TideTable", "roundAt", "(I)I"⟩ "TideTable"]
theorem tt_nest_shape : ∀ w ∈ tt_nest, ∃ a i x h, w = Cond.methodLinkNest a i x h := by
  intro w hw
  simp only [tt_nest, List.mem_cons, List.not_mem_nil, or_false] at hw
  rcases hw with h | h | h | h <;> exact ⟨_, _, _, _, h⟩
def tt_SxH (G : tt_G) (U : State) (H : Heap) : Prop :=
  (∀ j, j < 3 → va_Z "TideTable" (tt_sN j) "[I" (.ref (tt_sa G j)) (tt_Ad G) U H ∧ va_T .int (tt_sa G j) (tt_sn j) (fun i => .int (tt_sv j i)) (tt_Ad G) U H) ∧
  va_Z "java/lang/String" "COMPACT_STRINGS" "Z" (.int 1) (tt_Ad G) U H ∧
  (∀ w ∈ tt_nest, va_Nw w U) ∧ vk_R "TideTable$Page" 44 "psbft" (tt_sa G 3) U ∧ vk_S 1 [5] [[112, 115, 98, 102, 116]] (fun _ => tt_sa G 3) (fun _ => tt_sa G 4) (tt_Ad G) U H
def tt_Sx (G : tt_G) (U : State) : Prop := tt_SxH G U U.heap
theorem tt_Sx.go {G : tt_G} {s U : State} {H : Heap} {locs : List Loc} (h : tt_Sx G s) (hS : va_S (tt_Ad G) s.heap H locs) (hU : U.heap = H) (hW : s.WarmedH U.vm) : tt_Sx G U := by
  obtain ⟨h1, h2, h3, h4, h5⟩ := h
  have hq : ∀ a : Nat, a < s.heap.size → ¬ tt_Ad G a → U.heap[a]? = s.heap[a]? := fun a x y => by rw [hU]; exact hS.2.1 a x y
  refine ⟨fun j hj => ⟨((h1 j hj).1.kept hq).moved hW.alike, ((h1 j hj).2.kept hq).moved hW.alike⟩, (h2.kept hq).moved hW.alike, fun w hw => ?_, h4.warm hW, (h5.kept hq).moved hW.alike⟩
  obtain ⟨a, i, x, h, rfl⟩ := tt_nest_shape w hw
  exact va_Nw.warmM hW (h3 _ hw)
theorem tt_Sx.blind {G : tt_G} {U : State} (g : JFrame) (mk : MethodId) (a : Array Value) (h : tt_Sx G U) : tt_Sx G (U.calling g mk a) := by
  obtain ⟨h1, h2, h3, h4, h5⟩ := h
  have hv : (U.calling g mk a).vm = U.vm := rfl
  refine ⟨fun j hj => ⟨(h1 j hj).1.moved (Vm.Alike.refl U.vm), (h1 j hj).2.moved (Vm.Alike.refl U.vm)⟩, h2.moved (Vm.Alike.refl U.vm), fun w hw => ?_, h4.same hv, h5.moved (Vm.Alike.refl U.vm)⟩
  obtain ⟨b, i, x, h, rfl⟩ := tt_nest_shape w hw
  exact va_Nw.same rfl hv.symm (h3 _ hw)
/-! contracts -/
def tt_Pc (G : tt_G) (av : List Value) (st : tt_St) : Array Value → State → Prop := va_Pc av (fun U => va_P G.1 tt_cl (tt_ws G st) U.heap ∧ va_K G.1 tt_cl (tt_tys G) U ∧ tt_Sx G U ∧ tt_J G)
def tt_Q (G : tt_G) (rv : Option Value) (st' : tt_St) : Array Value → State → Outcome → State → Prop := fun _ s0 oc t => oc = .returned rv ∧ va_P G.1 tt_cl (tt_ws G st') t.heap ∧ va_F (tt_Ad G) s0 t
def tt_rm (fr lo : Nat) : Room := { frames := fr, cells := 0, slots := 0, locals := lo }
def tt_C (y : MethodName) (cc : ByteArray) (nL : Nat) (ret : Option FieldType) (fr lo : Nat) (G : tt_G) (av : List Value) (st : tt_St) (rv : Option Value) (st' : tt_St) : Prop :=
  ∀ l : Launch, Met l y (.code y cc nL ret :: tt_good) (tt_rm fr lo) (tt_Pc G av st) (tt_Q G rv st') 0 0 (tt_Ad G)
theorem tt_blind {G : tt_G} {av : List Value} {st : tt_St} : FrameBlind (tt_Pc G av st) := by
  intro a U g mk h
  obtain ⟨h0, h1, h2, h3, h4⟩ := h
  exact ⟨h0, h1, va_K.moved (u := U) (U := U.calling g mk a) (Vm.Alike.refl U.vm) h2, h3.blind g mk a, h4⟩
/-! the judgement -/
abbrev tt_X (α : Type) : Type := Program × Launch × Env × Room × State × MethodId × Array Value × List Frame × Method × Code × (Nat × Nat × Nat) × (Option Value × tt_St → State → Prop) × (α → Option Value × tt_St)
section TX
variable {α : Type}
abbrev tt_xp (κ : tt_X α) : Program := κ.1
abbrev tt_xl (κ : tt_X α) : Launch := κ.2.1
abbrev tt_xe (κ : tt_X α) : Env := κ.2.2.1
abbrev tt_xR (κ : tt_X α) : Room := κ.2.2.2.1
abbrev tt_xs (κ : tt_X α) : State := κ.2.2.2.2.1
abbrev tt_xm (κ : tt_X α) : MethodId := κ.2.2.2.2.2.1
abbrev tt_xa (κ : tt_X α) : Array Value := κ.2.2.2.2.2.2.1
abbrev tt_xb (κ : tt_X α) : List Frame := κ.2.2.2.2.2.2.2.1
abbrev tt_xM (κ : tt_X α) : Method := κ.2.2.2.2.2.2.2.2.1
abbrev tt_xc (κ : tt_X α) : Code := κ.2.2.2.2.2.2.2.2.2.1
abbrev tt_xn (κ : tt_X α) : Nat := κ.2.2.2.2.2.2.2.2.2.2.1.1
abbrev tt_xC (κ : tt_X α) : Nat := κ.2.2.2.2.2.2.2.2.2.2.1.2.1
abbrev tt_xS (κ : tt_X α) : Nat := κ.2.2.2.2.2.2.2.2.2.2.1.2.2
abbrev tt_xQ (κ : tt_X α) : Option Value × tt_St → State → Prop := κ.2.2.2.2.2.2.2.2.2.2.2.1
abbrev tt_xk (κ : tt_X α) : α → Option Value × tt_St := κ.2.2.2.2.2.2.2.2.2.2.2.2
abbrev tt_W (κ : tt_X α) (T : α) (H : Heap) (locs : List Loc) (g : JFrame) : Prop := W (tt_xp κ) (tt_xl κ) (tt_xe κ) (tt_xR κ) (tt_xs κ) (tt_xm κ) (tt_xa κ) (tt_xb κ) (tt_xM κ) (tt_xc κ) H locs (tt_xC κ) (tt_xS κ) (tt_xQ κ (tt_xk κ T)) g
/-- from pc, with these locals and this stack, in this state, the method comes to the result T -/
def tt_V (G : tt_G) (κ : tt_X α) (T : α) (st : tt_St) (pc : Nat) (lv : List (Nat × Value)) (stk : List Value) : Prop :=
  ∀ (H : Heap) (locs : List Loc) (ls : Array Slot), va_P G.1 tt_cl (tt_ws G st) H → va_S (tt_Ad G) (tt_xs κ).heap H locs → lv_has ls (tt_xn κ) lv → tt_W κ T H locs (F0 (tt_xm κ) pc ls stk)
def tt_Cx (G : tt_G) (κ : tt_X α) (cc : ByteArray) (own : String) (nL fr lo : Nat) : Prop :=
  (tt_xp κ).tables.exec = Jvm.exec ∧ (tt_xc κ).code = cc ∧ (tt_xc κ).maxLocals = nL ∧ tt_xn κ = nL ∧ (tt_xs κ).vm.findClass own = some (tt_xm κ).cls ∧ (∀ w ∈ tt_good, w.before (tt_xa κ) (tt_xs κ) = true) ∧ va_K G.1 tt_cl (tt_tys G) (tt_xs κ) ∧ tt_J G ∧ tt_Sx G (tt_xs κ) ∧ fr ≤ (tt_xR κ).frames ∧ lo ≤ (tt_xR κ).locals ∧ tt_xC κ ≤ (tt_xR κ).cells ∧ tt_xS κ ≤ (tt_xR κ).slots
def tt_Rt (G : tt_G) (κ : tt_X α) (ret : Option FieldType) (mk : α → Option Value × tt_St) : Prop :=
  (tt_xM κ).sig.returnType = ret ∧ (tt_xM κ).locks = false ∧ tt_xk κ = mk ∧ tt_xQ κ = fun r => MQ (tt_xb κ) (tt_Q G r.1 r.2) (tt_xa κ) (tt_xs κ) (tt_xC κ) (tt_xS κ) (tt_Ad G)
theorem tt_ofW {l : Launch} {y : MethodName} {ws ws' : List Cond} {rm : Room} {Pc : Array Value → State → Prop} {Qc : Array Value → State → Outcome → State → Prop} {mc ms : Nat} {free : Addr → Prop} {cc : ByteArray} {maxL : Nat} {ret : Option FieldType}
    (hy : plainFor y = true) (hw : ws = Cond.code y cc maxL ret :: ws')
    (body : ∀ p e s m args below meth c s₁, BodyLoose p l y (headSpec ws rm) cc maxL ret e s m args below meth c s₁ → c.maxLocals = maxL → Pc args s →
      W p l e (headSpec ws rm).room s m args below meth c s.heap [] 0 0 (MQ below Qc args s mc ms free) (entryFrame m args maxL)) : Met l y ws rm Pc Qc mc ms free := by
  refine MetFree.of_bodySF (code := cc) (maxLocals := maxL) (ret := ret) hy ?_ ?_
  · intro args s m h hn
    obtain ⟨meth, c, h1, h2, h3, h4, h5, h6, -, -⟩ := Cond.code_spec hn (atoms_spec (ws := ws) h _ (by rw [hw]; exact List.mem_cons_self))
    exact ⟨meth, c, h1, h2, h3, h4, h5, h6⟩
  · intro p e s m args below meth c s₁ B hml hP _
    have hh0 : s₁.heap = s.heap := by rw [B.state]; rfl
    obtain ⟨t, a1, o, b1, b2, b3⟩ := body p e s m args below meth c s₁ B hml hP s₁ hh0 (Stand.of_body B)
    exact ⟨t, o, a1, b1, b2, ⟨b3.1, b3.2⟩⟩
theorem tt_enter {y : MethodName} {cc : ByteArray} {nL : Nat} {ret : Option FieldType} {fr lo : Nat} {G : tt_G} {av : List Value} {st : tt_St} {mk : α → Option Value × tt_St} {T : α}
    (hy : plainFor y = true) (hlen : (lg_sl av).length ≤ nL) (body : ∀ κ : tt_X α, tt_Cx G κ cc y.cls nL fr lo → tt_Rt G κ ret mk → tt_V G κ T st 0 (lv_args 0 av) []) :
    tt_C y cc nL ret fr lo G av st (mk T).1 (mk T).2 := by
  intro l
  refine tt_ofW (cc := cc) (maxL := nL) (ret := ret) hy rfl ?_
  intro p e s m args below meth c s₁ B hml hv
  obtain ⟨rfl, hP, hK, hSx, hJ⟩ := hv
  have hts := atoms_spec (ws := .code y cc nL ret :: tt_good) B.pre
  have hown : s.vm.findClass y.cls = some m.cls := findClass_of_methodNamed B.named
  have hl := lv_entry av (n := nL) hlen
  rw [lg_entry_eq]
  have hb := body (p, l, e, tt_rm fr lo, s, m, av.toArray, below, meth, c, (nL, 0, 0), (fun r => MQ below (tt_Q G r.1 r.2) av.toArray s 0 0 (tt_Ad G)), mk)
    ⟨B.exec, B.bytes, hml, rfl, hown, fun w hw => hts w (List.mem_cons_of_mem _ hw), hK, hJ, hSx, Nat.le_refl _, Nat.le_refl _, Nat.zero_le _, Nat.zero_le _⟩
    ⟨B.returns, B.notSynchronized, rfl, rfl⟩
  exact hb s.heap [] _ hP va_S.rf hl
theorem tt_goodIn {y : MethodName} {cc : ByteArray} {nL : Nat} {ret : Option FieldType} (h : Cond.code y cc nL ret ∈ tt_good) : GoodIn tt_good (.code y cc nL ret :: tt_good) := by
  have hg : ∀ w ∈ tt_good, w ∈ tt_good ∧ ((w.onTables && w.keeps) = true ∨ ∃ ty, w = .arrayClass ty) := fun w hw => ⟨hw, good_of_word (List.mem_filter.mp hw).2⟩
  intro w hw
  rcases List.mem_cons.mp hw with e | e
  · exact hg w (e ▸ h)
  · exact hg w e
/-! calls -/
def tt_Mw (y : MethodName) (cc : ByteArray) (nL : Nat) (ret : Option FieldType) (n : Nat) : Prop := Cond.code y cc nL ret ∈ tt_good ∧ Cond.initialized y.cls ∈ tt_good ∧ (y.cls ≠ "java/lang/invoke/MethodHandle" ∧ y.cls ≠ "java/lang/invoke/VarHandle" ∧ (parseMethodDescriptor y.desc).map (fun d => d.parameters.length) = some n)
theorem tt_go {G : tt_G} {κ : tt_X α} {T : α} {st' : tt_St} {pc : Nat} {lv : List (Nat × Value)} {stk rest : List Value} {H : Heap} {locs : List Loc} {ls : Array Slot} {rv : Option Value} {a : Array Value} {stk1 : List Value}
    (hr : va_Run (tt_xp κ) (tt_xl κ) (tt_xe κ) (tt_xR κ) (tt_xs κ) (tt_xm κ) (tt_xa κ) (tt_xb κ) (tt_xM κ) (tt_xc κ) H locs (tt_xC κ) (tt_xS κ) 0 0 (F0 (tt_xm κ) pc ls stk) rest (tt_Q G rv st' a) (tt_Ad G)) (hS : va_S (tt_Ad G) (tt_xs κ).heap H locs) (hl : lv_has ls (tt_xn κ) lv) (hk1 : rv.toList ++ rest = stk1)
    (k : tt_V G κ T st' (pc + 3) lv stk1) : tt_W κ T H locs (F0 (tt_xm κ) pc ls stk) := by
  subst hk1
  intro U hU X
  obtain ⟨v, st₀, t, T', L, h0, X', hL, e1, e2, ⟨hv, hb, hz, hk⟩, go⟩ := hr U hU X
  cases hv
  rw [h0] at hz hk
  have hS' : va_S (tt_Ad G) (tt_xs κ).heap T'.heap (locs ++ L) := ⟨Nat.le_trans hS.1 (by rw [e1]; exact hz), fun q h1 h2 => by rw [e1, hk q (Nat.lt_of_lt_of_le h1 hS.1) h2]; exact hS.2.1 q h1 h2, fun q hq => by
      rcases List.mem_append.mp hq with h | h
      · exact hS.2.2 q h
      · exact hL q h⟩
  obtain ⟨t2, a1, b1⟩ := k T'.heap (locs ++ L) ls (by rw [e1]; exact hb) hS' hl T' rfl X'
  exact ⟨t2, go t2 a1, b1⟩
theorem r_callS {G : tt_G} {κ : tt_X α} {T : α} {st st' : tt_St} {pc : Nat} {lv : List (Nat × Value)} {av rest stk stk1 : List Value} {cc cc' : ByteArray} {own : String} {nL fr lo : Nat} {y : MethodName} {nL' fr' lo' n index : Nat} {ret' : Option FieldType} {rv : Option Value}
    (hC : tt_Cx G κ cc own nL fr lo) (hd : decode cc pc = .ok (.invokestatic index, 3)) (hM : tt_C y cc' nL' ret' fr' lo' G av st rv st') (hw : tt_Mw y cc' nL' ret' n) (hs : Cond.static y ∈ tt_good) (hm : Cond.methodLink own index y ∈ tt_good) (hn : av.length = n) (hk : av.reverse ++ rest = stk) (hroom : (Nat.ble (fr' + 1) fr && Nat.ble (8 + (nL' + 11) + lo') lo) = true) (hcat : (rest.map fun v => v.category).sum ≤ 8) (hk1 : rv.toList ++ rest = stk1)
    (k : tt_V G κ T st' (pc + 3) lv stk1) : tt_V G κ T st pc lv stk := by
  obtain ⟨hx, hb, hml, hnL, hown, hts, hK, hJ, hSx, q1, q2, q3, q4⟩ := hC
  rw [Bool.and_eq_true] at hroom
  have hroom1 := Nat.le_of_ble_eq_true hroom.1
  have hroom2 := Nat.le_of_ble_eq_true hroom.2
  intro H locs ls hP hS hl
  refine tt_go (va_runS (As := av) (rest := rest) ⟨hx, hb, hml, hown, hts⟩ (hM (tt_xl κ)) ⟨callB_of n hts (tt_goodIn hw.1) rfl rfl rfl (hts _ hw.2.1) (hts _ hm) hw.2.2 ⟨Nat.le_trans hroom1 q1, Nat.le_trans hroom2 q2⟩, hts _ hs⟩ ⟨tt_blind, fun U hU hW => ⟨rfl, by rw [hU]; exact hP, va_K.moved hW.alike hK, hSx.go hS hU hW, hJ⟩⟩ rfl hn (by rw [← hnL]; exact hl.1) hk.symm (lv_room hcat) hd ⟨q3, q4⟩) hS hl hk1 k
theorem r_callSN {G : tt_G} {κ : tt_X α} {T : α} {st st' : tt_St} {pc : Nat} {lv : List (Nat × Value)} {av rest stk stk1 : List Value} {cc cc' : ByteArray} {own host : String} {nL fr lo : Nat} {y : MethodName} {nL' fr' lo' n index : Nat} {ret' : Option FieldType} {rv : Option Value}
    (hC : tt_Cx G κ cc own nL fr lo) (hd : decode cc pc = .ok (.invokestatic index, 3)) (hM : tt_C y cc' nL' ret' fr' lo' G av st rv st') (hw : tt_Mw y cc' nL' ret' n) (hs : Cond.static y ∈ tt_good) (hm : Cond.methodLinkNest own index y host ∈ tt_nest) (hn : av.length = n) (hk : av.reverse ++ rest = stk) (hroom : (Nat.ble (fr' + 1) fr && Nat.ble (8 + (nL' + 11) + lo') lo) = true) (hcat : (rest.map fun v => v.category).sum ≤ 8) (hk1 : rv.toList ++ rest = stk1)
    (k : tt_V G κ T st' (pc + 3) lv stk1) : tt_V G κ T st pc lv stk := by
  obtain ⟨hx, hb, hml, hnL, hown, hts, hK, hJ, hSx, q1, q2, q3, q4⟩ := hC
  rw [Bool.and_eq_true] at hroom
  have hroom1 := Nat.le_of_ble_eq_true hroom.1
  have hroom2 := Nat.le_of_ble_eq_true hroom.2
  intro H locs ls hP hS hl
  refine tt_go (va_runSN (As := av) (rest := rest) ⟨hx, hb, hml, hown, hts⟩ (hM (tt_xl κ)) ⟨va_cnB n hts (tt_goodIn hw.1) rfl rfl rfl (hSx.2.2.1 _ hm) (hts _ hw.2.1) hw.2.2 ⟨Nat.le_trans hroom1 q1, Nat.le_trans hroom2 q2⟩, hts _ hs, trivial⟩ ⟨tt_blind, fun U hU hW => ⟨rfl, by rw [hU]; exact hP, va_K.moved hW.alike hK, hSx.go hS hU hW, hJ⟩⟩ rfl hn (by rw [← hnL]; exact hl.1) hk.symm (lv_room hcat) hd ⟨q3, q4⟩) hS hl hk1 k
theorem r_callV {G : tt_G} {κ : tt_X α} {T : α} {st st' : tt_St} {pc : Nat} {lv : List (Nat × Value)} {av rest stk stk1 : List Value} {cc cc' : ByteArray} {own C : String} {nL fr lo : Nat} {y : MethodName} {nL' fr' lo' n index o ci : Nat} {ret' : Option FieldType} {rv : Option Value} {F : u_T} {N : Nat}
    (hC : tt_Cx G κ cc own nL fr lo) (hd : decode cc pc = .ok (.invokevirtual index, 3)) (hM : tt_C y cc' nL' ret' fr' lo' G (.ref (tt_ad G o) :: av) st rv st') (hw : tt_Mw y cc' nL' ret' n) (hi : Cond.instanceMethod y ∈ tt_good) (hse : Cond.selects C y y ∈ tt_good) (hm : Cond.methodLink own index y ∈ tt_good) (ho : tt_ci o = ci) (hci : tt_cl[ci]? = some (C, F, N)) (hn : av.length = n) (hk : av.reverse ++ .ref (tt_ad G o) :: rest = stk) (hroom : (Nat.ble (fr' + 1) fr && Nat.ble (8 + (nL' + 11) + lo') lo) = true) (hcat : (rest.map fun v => v.category).sum ≤ 8) (hk1 : rv.toList ++ rest = stk1)
    (k : tt_V G κ T st' (pc + 3) lv stk1) : tt_V G κ T st pc lv stk := by
  obtain ⟨hx, hb, hml, hnL, hown, hts, hK, hJ, hSx, q1, q2, q3, q4⟩ := hC
  rw [Bool.and_eq_true] at hroom
  have hroom1 := Nat.le_of_ble_eq_true hroom.1
  have hroom2 := Nat.le_of_ble_eq_true hroom.2
  have hlt : tt_ci o < 6 := by rw [ho]; exact (List.getElem?_eq_some_iff.mp hci).1
  have hE := tt_ws_get G st (tt_ci_lt hlt)
  rw [tt_E_obj hlt, ho] at hE
  intro H locs ls hP hS hl
  refine tt_go (va_runV (As := av) (rest := rest) (C := C) ⟨hx, hb, hml, hown, hts⟩ (hM (tt_xl κ)) ⟨callB_of n hts (tt_goodIn hw.1) rfl rfl rfl (hts _ hw.2.1) (hts _ hm) hw.2.2 ⟨Nat.le_trans hroom1 q1, Nat.le_trans hroom2 q2⟩, hts _ hi, hts _ hse⟩ ⟨tt_blind, va_recv hK hP hci hE, fun U hU hW => ⟨rfl, by rw [hU]; exact hP, va_K.moved hW.alike hK, hSx.go hS hU hW, hJ⟩⟩ rfl hn (by rw [← hnL]; exact hl.1) hk.symm (lv_room hcat) hd ⟨q3, q4⟩) hS hl hk1 k
theorem tt_join {G : tt_G} {κ : tt_X α} {T : α} {st : tt_St} {pc : Nat} {lv : List (Nat × Value)} {stk : List Value} (j : Nat) (lv' : List (Nat × Value)) (stk' : List Value) (k : tt_V G κ T st j lv' stk') (h : tt_V G κ T st j lv' stk' → tt_V G κ T st pc lv stk) : tt_V G κ T st pc lv stk := h k
theorem tt_cast {G : tt_G} {κ : tt_X α} {T : α} {st : tt_St} {pc : Nat} {lv lv' : List (Nat × Value)} {stk stk' : List Value} (ks : List Nat) (hl : lv_pick lv ks = lv') (hs : stk = stk') (k : tt_V G κ T st pc lv' stk') : tt_V G κ T st pc lv stk := by
  subst hs
  exact fun H locs ls hP hS h => k H locs ls hP hS (lv_sub h ks hl)
theorem tt_ite {G : tt_G} {κ : tt_X α} {T1 T2 : α} {st : tt_St} {pc : Nat} {lv : List (Nat × Value)} {stk : List Value} {c : Prop} [Decidable c] (kt : c → tt_V G κ T1 st pc lv stk) (kf : ¬ c → tt_V G κ T2 st pc lv stk) : tt_V G κ (if c then T1 else T2) st pc lv stk := by
  by_cases h : c
  · rw [if_pos h]; exact kt h
  · rw [if_neg h]; exact kf h
theorem tt_itej {G : tt_G} {κ : tt_X α} {T : α} {st : tt_St} {pc : Nat} {lv : List (Nat × Value)} {stk : List Value} {c : Prop} (kt : c → tt_V G κ T st pc lv stk) (kf : ¬ c → tt_V G κ T st pc lv stk) : tt_V G κ T st pc lv stk := by
  by_cases h : c
  · exact kt h
  · exact kf h
end TX
end
section
section TR
variable {α : Type} {G : tt_G} {κ : tt_X α} {T : α} {st : tt_St} {pc : Nat} {lv : List (Nat × Value)} {rest : List Value} {cc : ByteArray} {own : String} {nL fr lo : Nat}
theorem r_iconst {n : Int} {v : Int32} (hC : tt_Cx G κ cc own nL fr lo) (hd : decode cc pc = .ok (.iconst n, 1)) (hv : Int32.ofInt n = v) (k : tt_V G κ T st (pc + 1) lv (.int v :: rest)) : tt_V G κ T st pc lv (rest) := by
  obtain ⟨hx, hb, hml, hnL, hown, hts, hK, hJ, hSx, q1, q2, q3, q4⟩ := hC; intro H locs ls hP hS hl
  exact lv_iconst hx hb hd hv (k H locs ls hP hS hl)
theorem r_bipush {n : Int} {v : Int32} (hC : tt_Cx G κ cc own nL fr lo) (hd : decode cc pc = .ok (.bipush n, 2)) (hv : (Int8.ofInt n).toInt32 = v) (k : tt_V G κ T st (pc + 2) lv (.int v :: rest)) : tt_V G κ T st pc lv (rest) := by
  obtain ⟨hx, hb, hml, hnL, hown, hts, hK, hJ, hSx, q1, q2, q3, q4⟩ := hC; intro H locs ls hP hS hl
  exact lv_bipush hx hb hd hv (k H locs ls hP hS hl)
theorem r_sipush {n : Int} {v : Int32} (hC : tt_Cx G κ cc own nL fr lo) (hd : decode cc pc = .ok (.sipush n, 3)) (hv : (Int16.ofInt n).toInt32 = v) (k : tt_V G κ T st (pc + 3) lv (.int v :: rest)) : tt_V G κ T st pc lv (rest) := by
  obtain ⟨hx, hb, hml, hnL, hown, hts, hK, hJ, hSx, q1, q2, q3, q4⟩ := hC; intro H locs ls hP hS hl
  exact lv_sipush hx hb hd hv (k H locs ls hP hS hl)
theorem r_iadd {x y : Int32} (hC : tt_Cx G κ cc own nL fr lo) (hd : decode cc pc = .ok (.iadd, 1)) (k : tt_V G κ T st (pc + 1) lv (.int (x + y) :: rest)) : tt_V G κ T st pc lv (.int y :: .int x :: rest) := by
  obtain ⟨hx, hb, hml, hnL, hown, hts, hK, hJ, hSx, q1, q2, q3, q4⟩ := hC; intro H locs ls hP hS hl
  exact lv_iadd hx hb hd (k H locs ls hP hS hl)
theorem r_isub {x y : Int32} (hC : tt_Cx G κ cc own nL fr lo) (hd : decode cc pc = .ok (.isub, 1)) (k : tt_V G κ T st (pc + 1) lv (.int (x - y) :: rest)) : tt_V G κ T st pc lv (.int y :: .int x :: rest) := by
  obtain ⟨hx, hb, hml, hnL, hown, hts, hK, hJ, hSx, q1, q2, q3, q4⟩ := hC; intro H locs ls hP hS hl
  exact lv_isub hx hb hd (k H locs ls hP hS hl)
theorem r_imul {x y : Int32} (hC : tt_Cx G κ cc own nL fr lo) (hd : decode cc pc = .ok (.imul, 1)) (k : tt_V G κ T st (pc + 1) lv (.int (x * y) :: rest)) : tt_V G κ T st pc lv (.int y :: .int x :: rest) := by
  obtain ⟨hx, hb, hml, hnL, hown, hts, hK, hJ, hSx, q1, q2, q3, q4⟩ := hC; intro H locs ls hP hS hl
  exact lv_imul hx hb hd (k H locs ls hP hS hl)
theorem r_iand {x y : Int32} (hC : tt_Cx G κ cc own nL fr lo) (hd : decode cc pc = .ok (.iand, 1)) (k : tt_V G κ T st (pc + 1) lv (.int (x &&& y) :: rest)) : tt_V G κ T st pc lv (.int y :: .int x :: rest) := by
  obtain ⟨hx, hb, hml, hnL, hown, hts, hK, hJ, hSx, q1, q2, q3, q4⟩ := hC; intro H locs ls hP hS hl
  exact lv_iand hx hb hd (k H locs ls hP hS hl)
theorem r_ior {x y : Int32} (hC : tt_Cx G κ cc own nL fr lo) (hd : decode cc pc = .ok (.ior, 1)) (k : tt_V G κ T st (pc + 1) lv (.int (x ||| y) :: rest)) : tt_V G κ T st pc lv (.int y :: .int x :: rest) := by
  obtain ⟨hx, hb, hml, hnL, hown, hts, hK, hJ, hSx, q1, q2, q3, q4⟩ := hC; intro H locs ls hP hS hl
  exact lv_ior hx hb hd (k H locs ls hP hS hl)
theorem r_ixor {x y : Int32} (hC : tt_Cx G κ cc own nL fr lo) (hd : decode cc pc = .ok (.ixor, 1)) (k : tt_V G κ T st (pc + 1) lv (.int (x ^^^ y) :: rest)) : tt_V G κ T st pc lv (.int y :: .int x :: rest) := by
  obtain ⟨hx, hb, hml, hnL, hown, hts, hK, hJ, hSx, q1, q2, q3, q4⟩ := hC; intro H locs ls hP hS hl
  exact lv_ixor hx hb hd (k H locs ls hP hS hl)
theorem r_ineg {x : Int32} (hC : tt_Cx G κ cc own nL fr lo) (hd : decode cc pc = .ok (.ineg, 1)) (k : tt_V G κ T st (pc + 1) lv (.int (-x) :: rest)) : tt_V G κ T st pc lv (.int x :: rest) := by
  obtain ⟨hx, hb, hml, hnL, hown, hts, hK, hJ, hSx, q1, q2, q3, q4⟩ := hC; intro H locs ls hP hS hl
  exact lv_ineg hx hb hd (k H locs ls hP hS hl)
theorem r_ishl {x y : Int32} (hC : tt_Cx G κ cc own nL fr lo) (hd : decode cc pc = .ok (.ishl, 1)) (k : tt_V G κ T st (pc + 1) lv (.int (x <<< (y &&& 31)) :: rest)) : tt_V G κ T st pc lv (.int y :: .int x :: rest) := by
  obtain ⟨hx, hb, hml, hnL, hown, hts, hK, hJ, hSx, q1, q2, q3, q4⟩ := hC; intro H locs ls hP hS hl
  exact lv_ishl hx hb hd (k H locs ls hP hS hl)
theorem r_ishr {x y : Int32} (hC : tt_Cx G κ cc own nL fr lo) (hd : decode cc pc = .ok (.ishr, 1)) (k : tt_V G κ T st (pc + 1) lv (.int (x >>> (y &&& 31)) :: rest)) : tt_V G κ T st pc lv (.int y :: .int x :: rest) := by
  obtain ⟨hx, hb, hml, hnL, hown, hts, hK, hJ, hSx, q1, q2, q3, q4⟩ := hC; intro H locs ls hP hS hl
  exact lv_ishr hx hb hd (k H locs ls hP hS hl)
theorem r_iushr {x y : Int32} (hC : tt_Cx G κ cc own nL fr lo) (hd : decode cc pc = .ok (.iushr, 1)) (k : tt_V G κ T st (pc + 1) lv (.int ((x.toUInt32 >>> (y.toUInt32 &&& Int32.toUInt32 31)).toInt32) :: rest)) : tt_V G κ T st pc lv (.int y :: .int x :: rest) := by
  obtain ⟨hx, hb, hml, hnL, hown, hts, hK, hJ, hSx, q1, q2, q3, q4⟩ := hC; intro H locs ls hP hS hl
  exact lv_iushr hx hb hd rfl (k H locs ls hP hS hl)
theorem r_idiv {x y : Int32} (hC : tt_Cx G κ cc own nL fr lo) (hd : decode cc pc = .ok (.idiv, 1)) (hne : ¬ y = 0) (k : tt_V G κ T st (pc + 1) lv (.int (x / y) :: rest)) : tt_V G κ T st pc lv (.int y :: .int x :: rest) := by
  obtain ⟨hx, hb, hml, hnL, hown, hts, hK, hJ, hSx, q1, q2, q3, q4⟩ := hC; intro H locs ls hP hS hl
  exact lv_idiv hx hb hd hne (k H locs ls hP hS hl)
theorem r_irem {x y : Int32} (hC : tt_Cx G κ cc own nL fr lo) (hd : decode cc pc = .ok (.irem, 1)) (hne : ¬ y = 0) (k : tt_V G κ T st (pc + 1) lv (.int (x - x / y * y) :: rest)) : tt_V G κ T st pc lv (.int y :: .int x :: rest) := by
  obtain ⟨hx, hb, hml, hnL, hown, hts, hK, hJ, hSx, q1, q2, q3, q4⟩ := hC; intro H locs ls hP hS hl
  exact lv_irem hx hb hd hne (k H locs ls hP hS hl)
theorem r_ladd {x y : Int64} (hC : tt_Cx G κ cc own nL fr lo) (hd : decode cc pc = .ok (.ladd, 1)) (k : tt_V G κ T st (pc + 1) lv (.long (x + y) :: rest)) : tt_V G κ T st pc lv (.long y :: .long x :: rest) := by
  obtain ⟨hx, hb, hml, hnL, hown, hts, hK, hJ, hSx, q1, q2, q3, q4⟩ := hC; intro H locs ls hP hS hl
  exact lv_ladd hx hb hd (k H locs ls hP hS hl)
theorem r_lmul {x y : Int64} (hC : tt_Cx G κ cc own nL fr lo) (hd : decode cc pc = .ok (.lmul, 1)) (k : tt_V G κ T st (pc + 1) lv (.long (x * y) :: rest)) : tt_V G κ T st pc lv (.long y :: .long x :: rest) := by
  obtain ⟨hx, hb, hml, hnL, hown, hts, hK, hJ, hSx, q1, q2, q3, q4⟩ := hC; intro H locs ls hP hS hl
  exact lv_lmul hx hb hd (k H locs ls hP hS hl)
theorem r_land {x y : Int64} (hC : tt_Cx G κ cc own nL fr lo) (hd : decode cc pc = .ok (.land, 1)) (k : tt_V G κ T st (pc + 1) lv (.long (x &&& y) :: rest)) : tt_V G κ T st pc lv (.long y :: .long x :: rest) := by
  obtain ⟨hx, hb, hml, hnL, hown, hts, hK, hJ, hSx, q1, q2, q3, q4⟩ := hC; intro H locs ls hP hS hl
  exact lv_land hx hb hd (k H locs ls hP hS hl)
theorem r_ldiv {x y : Int64} (hC : tt_Cx G κ cc own nL fr lo) (hd : decode cc pc = .ok (.ldiv, 1)) (hne : ¬ y = 0) (k : tt_V G κ T st (pc + 1) lv (.long (x / y) :: rest)) : tt_V G κ T st pc lv (.long y :: .long x :: rest) := by
  obtain ⟨hx, hb, hml, hnL, hown, hts, hK, hJ, hSx, q1, q2, q3, q4⟩ := hC; intro H locs ls hP hS hl
  exact lv_ldiv hx hb hd hne (k H locs ls hP hS hl)
theorem r_lrem {x y : Int64} (hC : tt_Cx G κ cc own nL fr lo) (hd : decode cc pc = .ok (.lrem, 1)) (hne : ¬ y = 0) (k : tt_V G κ T st (pc + 1) lv (.long (x - x / y * y) :: rest)) : tt_V G κ T st pc lv (.long y :: .long x :: rest) := by
  obtain ⟨hx, hb, hml, hnL, hown, hts, hK, hJ, hSx, q1, q2, q3, q4⟩ := hC; intro H locs ls hP hS hl
  exact lv_lrem hx hb hd hne (k H locs ls hP hS hl)
theorem r_i2l {x : Int32} (hC : tt_Cx G κ cc own nL fr lo) (hd : decode cc pc = .ok (.i2l, 1)) (k : tt_V G κ T st (pc + 1) lv (.long x.toInt64 :: rest)) : tt_V G κ T st pc lv (.int x :: rest) := by
  obtain ⟨hx, hb, hml, hnL, hown, hts, hK, hJ, hSx, q1, q2, q3, q4⟩ := hC; intro H locs ls hP hS hl
  exact lv_i2l hx hb hd rfl (k H locs ls hP hS hl)
theorem r_l2i {x : Int64} (hC : tt_Cx G κ cc own nL fr lo) (hd : decode cc pc = .ok (.l2i, 1)) (k : tt_V G κ T st (pc + 1) lv (.int x.toInt32 :: rest)) : tt_V G κ T st pc lv (.long x :: rest) := by
  obtain ⟨hx, hb, hml, hnL, hown, hts, hK, hJ, hSx, q1, q2, q3, q4⟩ := hC; intro H locs ls hP hS hl
  exact lv_l2i hx hb hd rfl (k H locs ls hP hS hl)
theorem r_i2b {x : Int32} (hC : tt_Cx G κ cc own nL fr lo) (hd : decode cc pc = .ok (.i2b, 1)) (k : tt_V G κ T st (pc + 1) lv (.int x.toInt8.toInt32 :: rest)) : tt_V G κ T st pc lv (.int x :: rest) := by
  obtain ⟨hx, hb, hml, hnL, hown, hts, hK, hJ, hSx, q1, q2, q3, q4⟩ := hC; intro H locs ls hP hS hl
  exact lv_i2b hx hb hd rfl (k H locs ls hP hS hl)
theorem r_i2c {x : Int32} (hC : tt_Cx G κ cc own nL fr lo) (hd : decode cc pc = .ok (.i2c, 1)) (k : tt_V G κ T st (pc + 1) lv (.int (x.toUInt32 % 65536).toInt32 :: rest)) : tt_V G κ T st pc lv (.int x :: rest) := by
  obtain ⟨hx, hb, hml, hnL, hown, hts, hK, hJ, hSx, q1, q2, q3, q4⟩ := hC; intro H locs ls hP hS hl
  exact lv_i2c hx hb hd rfl (k H locs ls hP hS hl)
theorem r_dup {va : Value} (hC : tt_Cx G κ cc own nL fr lo) (hd : decode cc pc = .ok (.dup, 1)) (hva : va.category = 1) (k : tt_V G κ T st (pc + 1) lv (va :: va :: rest)) : tt_V G κ T st pc lv (va :: rest) := by
  obtain ⟨hx, hb, hml, hnL, hown, hts, hK, hJ, hSx, q1, q2, q3, q4⟩ := hC; intro H locs ls hP hS hl
  exact lv_dup hx hb hd hva (k H locs ls hP hS hl)
theorem r_dup2 {va vb : Value} (hC : tt_Cx G κ cc own nL fr lo) (hd : decode cc pc = .ok (.dup2, 1)) (hva : va.category = 1) (hvb : vb.category = 1) (k : tt_V G κ T st (pc + 1) lv (va :: vb :: va :: vb :: rest)) : tt_V G κ T st pc lv (va :: vb :: rest) := by
  obtain ⟨hx, hb, hml, hnL, hown, hts, hK, hJ, hSx, q1, q2, q3, q4⟩ := hC; intro H locs ls hP hS hl
  exact lv_dup2_11 hx hb hd hva hvb (k H locs ls hP hS hl)
theorem r_pop {va : Value} (hC : tt_Cx G κ cc own nL fr lo) (hd : decode cc pc = .ok (.pop, 1)) (hva : va.category = 1) (k : tt_V G κ T st (pc + 1) lv (rest)) : tt_V G κ T st pc lv (va :: rest) := by
  obtain ⟨hx, hb, hml, hnL, hown, hts, hK, hJ, hSx, q1, q2, q3, q4⟩ := hC; intro H locs ls hP hS hl
  exact lv_pop hx hb hd hva (k H locs ls hP hS hl)
theorem r_goto {off : Int} {tgt : Nat} (hC : tt_Cx G κ cc own nL fr lo) (hd : decode cc pc = .ok (.goto off, 3)) (ht : (pc : Int) + off = (tgt : Int)) (k : tt_V G κ T st tgt lv rest) : tt_V G κ T st pc lv rest := by
  obtain ⟨hx, hb, hml, hnL, hown, hts, hK, hJ, hSx, q1, q2, q3, q4⟩ := hC; intro H locs ls hP hS hl
  exact lv_goto hx hb hd ht (k H locs ls hP hS hl)
theorem r_if_eq {x : Int32} {off : Int} {tgt : Nat} {T1 T2 : α} (hC : tt_Cx G κ cc own nL fr lo) (hd : decode cc pc = .ok (.ifCond .eq off, 3)) (ht : (pc : Int) + off = (tgt : Int)) (kt : x = 0 → tt_V G κ T1 st tgt lv rest) (kf : ¬ x = 0 → tt_V G κ T2 st (pc + 3) lv rest) : tt_V G κ (if x = 0 then T1 else T2) st pc lv (.int x :: rest) := by
  obtain ⟨hx, hb, hml, hnL, hown, hts, hK, hJ, hSx, q1, q2, q3, q4⟩ := hC; intro H locs ls hP hS hl
  by_cases hc : x = 0
  · rw [if_pos hc]; exact lv_if_eq hx hb hd ht (fun c => kt c H locs ls hP hS hl) (fun c => absurd hc c)
  · rw [if_neg hc]; exact lv_if_eq hx hb hd ht (fun c => absurd c hc) (fun c => kf c H locs ls hP hS hl)
theorem j_if_eq {x : Int32} {off : Int} {tgt : Nat} (hC : tt_Cx G κ cc own nL fr lo) (hd : decode cc pc = .ok (.ifCond .eq off, 3)) (ht : (pc : Int) + off = (tgt : Int)) (kt : x = 0 → tt_V G κ T st tgt lv rest) (kf : ¬ x = 0 → tt_V G κ T st (pc + 3) lv rest) : tt_V G κ T st pc lv (.int x :: rest) := by
  obtain ⟨hx, hb, hml, hnL, hown, hts, hK, hJ, hSx, q1, q2, q3, q4⟩ := hC; intro H locs ls hP hS hl
  exact lv_if_eq hx hb hd ht (fun c => kt c H locs ls hP hS hl) (fun c => kf c H locs ls hP hS hl)
theorem t_if_eq {x : Int32} {off : Int} {tgt : Nat} (hC : tt_Cx G κ cc own nL fr lo) (hd : decode cc pc = .ok (.ifCond .eq off, 3)) (ht : (pc : Int) + off = (tgt : Int)) (h : x = 0) (k : tt_V G κ T st tgt lv rest) : tt_V G κ T st pc lv (.int x :: rest) := j_if_eq hC hd ht (fun _ => k) (fun c => absurd h c)
theorem f_if_eq {x : Int32} {off : Int} {tgt : Nat} (hC : tt_Cx G κ cc own nL fr lo) (hd : decode cc pc = .ok (.ifCond .eq off, 3)) (ht : (pc : Int) + off = (tgt : Int)) (h : ¬ x = 0) (k : tt_V G κ T st (pc + 3) lv rest) : tt_V G κ T st pc lv (.int x :: rest) := j_if_eq hC hd ht (fun c => absurd c h) (fun _ => k)
theorem r_if_ne {x : Int32} {off : Int} {tgt : Nat} {T1 T2 : α} (hC : tt_Cx G κ cc own nL fr lo) (hd : decode cc pc = .ok (.ifCond .ne off, 3)) (ht : (pc : Int) + off = (tgt : Int)) (kt : ¬ x = 0 → tt_V G κ T2 st tgt lv rest) (kf : x = 0 → tt_V G κ T1 st (pc + 3) lv rest) : tt_V G κ (if x = 0 then T1 else T2) st pc lv (.int x :: rest) := by
  obtain ⟨hx, hb, hml, hnL, hown, hts, hK, hJ, hSx, q1, q2, q3, q4⟩ := hC; intro H locs ls hP hS hl
  by_cases hc : x = 0
  · rw [if_pos hc]; exact lv_if_ne hx hb hd ht (fun c => absurd hc c) (fun c => kf c H locs ls hP hS hl)
  · rw [if_neg hc]; exact lv_if_ne hx hb hd ht (fun c => kt c H locs ls hP hS hl) (fun c => absurd c hc)
theorem j_if_ne {x : Int32} {off : Int} {tgt : Nat} (hC : tt_Cx G κ cc own nL fr lo) (hd : decode cc pc = .ok (.ifCond .ne off, 3)) (ht : (pc : Int) + off = (tgt : Int)) (kt : ¬ x = 0 → tt_V G κ T st tgt lv rest) (kf : x = 0 → tt_V G κ T st (pc + 3) lv rest) : tt_V G κ T st pc lv (.int x :: rest) := by
  obtain ⟨hx, hb, hml, hnL, hown, hts, hK, hJ, hSx, q1, q2, q3, q4⟩ := hC; intro H locs ls hP hS hl
  exact lv_if_ne hx hb hd ht (fun c => kt c H locs ls hP hS hl) (fun c => kf c H locs ls hP hS hl)
theorem t_if_ne {x : Int32} {off : Int} {tgt : Nat} (hC : tt_Cx G κ cc own nL fr lo) (hd : decode cc pc = .ok (.ifCond .ne off, 3)) (ht : (pc : Int) + off = (tgt : Int)) (h : ¬ x = 0) (k : tt_V G κ T st tgt lv rest) : tt_V G κ T st pc lv (.int x :: rest) := j_if_ne hC hd ht (fun _ => k) (fun c => absurd c h)
theorem f_if_ne {x : Int32} {off : Int} {tgt : Nat} (hC : tt_Cx G κ cc own nL fr lo) (hd : decode cc pc = .ok (.ifCond .ne off, 3)) (ht : (pc : Int) + off = (tgt : Int)) (h : x = 0) (k : tt_V G κ T st (pc + 3) lv rest) : tt_V G κ T st pc lv (.int x :: rest) := j_if_ne hC hd ht (fun c => absurd h c) (fun _ => k)
theorem r_if_lt {x : Int32} {off : Int} {tgt : Nat} {T1 T2 : α} (hC : tt_Cx G κ cc own nL fr lo) (hd : decode cc pc = .ok (.ifCond .lt off, 3)) (ht : (pc : Int) + off = (tgt : Int)) (kt : x < 0 → tt_V G κ T1 st tgt lv rest) (kf : ¬ x < 0 → tt_V G κ T2 st (pc + 3) lv rest) : tt_V G κ (if x < 0 then T1 else T2) st pc lv (.int x :: rest) := by
  obtain ⟨hx, hb, hml, hnL, hown, hts, hK, hJ, hSx, q1, q2, q3, q4⟩ := hC; intro H locs ls hP hS hl
  by_cases hc : x < 0
  · rw [if_pos hc]; exact lv_if_lt hx hb hd ht (fun c => kt c H locs ls hP hS hl) (fun c => absurd hc c)
  · rw [if_neg hc]; exact lv_if_lt hx hb hd ht (fun c => absurd c hc) (fun c => kf c H locs ls hP hS hl)
theorem j_if_lt {x : Int32} {off : Int} {tgt : Nat} (hC : tt_Cx G κ cc own nL fr lo) (hd : decode cc pc = .ok (.ifCond .lt off, 3)) (ht : (pc : Int) + off = (tgt : Int)) (kt : x < 0 → tt_V G κ T st tgt lv rest) (kf : ¬ x < 0 → tt_V G κ T st (pc + 3) lv rest) : tt_V G κ T st pc lv (.int x :: rest) := by
  obtain ⟨hx, hb, hml, hnL, hown, hts, hK, hJ, hSx, q1, q2, q3, q4⟩ := hC; intro H locs ls hP hS hl
  exact lv_if_lt hx hb hd ht (fun c => kt c H locs ls hP hS hl) (fun c => kf c H locs ls hP hS hl)
theorem t_if_lt {x : Int32} {off : Int} {tgt : Nat} (hC : tt_Cx G κ cc own nL fr lo) (hd : decode cc pc = .ok (.ifCond .lt off, 3)) (ht : (pc : Int) + off = (tgt : Int)) (h : x < 0) (k : tt_V G κ T st tgt lv rest) : tt_V G κ T st pc lv (.int x :: rest) := j_if_lt hC hd ht (fun _ => k) (fun c => absurd h c)
theorem f_if_lt {x : Int32} {off : Int} {tgt : Nat} (hC : tt_Cx G κ cc own nL fr lo) (hd : decode cc pc = .ok (.ifCond .lt off, 3)) (ht : (pc : Int) + off = (tgt : Int)) (h : ¬ x < 0) (k : tt_V G κ T st (pc + 3) lv rest) : tt_V G κ T st pc lv (.int x :: rest) := j_if_lt hC hd ht (fun c => absurd c h) (fun _ => k)
theorem r_if_ge {x : Int32} {off : Int} {tgt : Nat} {T1 T2 : α} (hC : tt_Cx G κ cc own nL fr lo) (hd : decode cc pc = .ok (.ifCond .ge off, 3)) (ht : (pc : Int) + off = (tgt : Int)) (kt : 0 ≤ x → tt_V G κ T1 st tgt lv rest) (kf : ¬ 0 ≤ x → tt_V G κ T2 st (pc + 3) lv rest) : tt_V G κ (if 0 ≤ x then T1 else T2) st pc lv (.int x :: rest) := by
  obtain ⟨hx, hb, hml, hnL, hown, hts, hK, hJ, hSx, q1, q2, q3, q4⟩ := hC; intro H locs ls hP hS hl
  by_cases hc : 0 ≤ x
  · rw [if_pos hc]; exact lv_if_ge hx hb hd ht (fun c => kt c H locs ls hP hS hl) (fun c => absurd hc c)
  · rw [if_neg hc]; exact lv_if_ge hx hb hd ht (fun c => absurd c hc) (fun c => kf c H locs ls hP hS hl)
theorem j_if_ge {x : Int32} {off : Int} {tgt : Nat} (hC : tt_Cx G κ cc own nL fr lo) (hd : decode cc pc = .ok (.ifCond .ge off, 3)) (ht : (pc : Int) + off = (tgt : Int)) (kt : 0 ≤ x → tt_V G κ T st tgt lv rest) (kf : ¬ 0 ≤ x → tt_V G κ T st (pc + 3) lv rest) : tt_V G κ T st pc lv (.int x :: rest) := by
  obtain ⟨hx, hb, hml, hnL, hown, hts, hK, hJ, hSx, q1, q2, q3, q4⟩ := hC; intro H locs ls hP hS hl
  exact lv_if_ge hx hb hd ht (fun c => kt c H locs ls hP hS hl) (fun c => kf c H locs ls hP hS hl)
theorem t_if_ge {x : Int32} {off : Int} {tgt : Nat} (hC : tt_Cx G κ cc own nL fr lo) (hd : decode cc pc = .ok (.ifCond .ge off, 3)) (ht : (pc : Int) + off = (tgt : Int)) (h : 0 ≤ x) (k : tt_V G κ T st tgt lv rest) : tt_V G κ T st pc lv (.int x :: rest) := j_if_ge hC hd ht (fun _ => k) (fun c => absurd h c)
theorem f_if_ge {x : Int32} {off : Int} {tgt : Nat} (hC : tt_Cx G κ cc own nL fr lo) (hd : decode cc pc = .ok (.ifCond .ge off, 3)) (ht : (pc : Int) + off = (tgt : Int)) (h : ¬ 0 ≤ x) (k : tt_V G κ T st (pc + 3) lv rest) : tt_V G κ T st pc lv (.int x :: rest) := j_if_ge hC hd ht (fun c => absurd c h) (fun _ => k)
theorem r_if_gt {x : Int32} {off : Int} {tgt : Nat} {T1 T2 : α} (hC : tt_Cx G κ cc own nL fr lo) (hd : decode cc pc = .ok (.ifCond .gt off, 3)) (ht : (pc : Int) + off = (tgt : Int)) (kt : 0 < x → tt_V G κ T1 st tgt lv rest) (kf : ¬ 0 < x → tt_V G κ T2 st (pc + 3) lv rest) : tt_V G κ (if 0 < x then T1 else T2) st pc lv (.int x :: rest) := by
  obtain ⟨hx, hb, hml, hnL, hown, hts, hK, hJ, hSx, q1, q2, q3, q4⟩ := hC; intro H locs ls hP hS hl
  by_cases hc : 0 < x
  · rw [if_pos hc]; exact lv_if_gt hx hb hd ht (fun c => kt c H locs ls hP hS hl) (fun c => absurd hc c)
  · rw [if_neg hc]; exact lv_if_gt hx hb hd ht (fun c => absurd c hc) (fun c => kf c H locs ls hP hS hl)
theorem j_if_gt {x : Int32} {off : Int} {tgt : Nat} (hC : tt_Cx G κ cc own nL fr lo) (hd : decode cc pc = .ok (.ifCond .gt off, 3)) (ht : (pc : Int) + off = (tgt : Int)) (kt : 0 < x → tt_V G κ T st tgt lv rest) (kf : ¬ 0 < x → tt_V G κ T st (pc + 3) lv rest) : tt_V G κ T st pc lv (.int x :: rest) := by
  obtain ⟨hx, hb, hml, hnL, hown, hts, hK, hJ, hSx, q1, q2, q3, q4⟩ := hC; intro H locs ls hP hS hl
  exact lv_if_gt hx hb hd ht (fun c => kt c H locs ls hP hS hl) (fun c => kf c H locs ls hP hS hl)
theorem t_if_gt {x : Int32} {off : Int} {tgt : Nat} (hC : tt_Cx G κ cc own nL fr lo) (hd : decode cc pc = .ok (.ifCond .gt off, 3)) (ht : (pc : Int) + off = (tgt : Int)) (h : 0 < x) (k : tt_V G κ T st tgt lv rest) : tt_V G κ T st pc lv (.int x :: rest) := j_if_gt hC hd ht (fun _ => k) (fun c => absurd h c)
theorem f_if_gt {x : Int32} {off : Int} {tgt : Nat} (hC : tt_Cx G κ cc own nL fr lo) (hd : decode cc pc = .ok (.ifCond .gt off, 3)) (ht : (pc : Int) + off = (tgt : Int)) (h : ¬ 0 < x) (k : tt_V G κ T st (pc + 3) lv rest) : tt_V G κ T st pc lv (.int x :: rest) := j_if_gt hC hd ht (fun c => absurd c h) (fun _ => k)
theorem r_if_le {x : Int32} {off : Int} {tgt : Nat} {T1 T2 : α} (hC : tt_Cx G κ cc own nL fr lo) (hd : decode cc pc = .ok (.ifCond .le off, 3)) (ht : (pc : Int) + off = (tgt : Int)) (kt : x ≤ 0 → tt_V G κ T1 st tgt lv rest) (kf : ¬ x ≤ 0 → tt_V G κ T2 st (pc + 3) lv rest) : tt_V G κ (if x ≤ 0 then T1 else T2) st pc lv (.int x :: rest) := by
  obtain ⟨hx, hb, hml, hnL, hown, hts, hK, hJ, hSx, q1, q2, q3, q4⟩ := hC; intro H locs ls hP hS hl
  by_cases hc : x ≤ 0
  · rw [if_pos hc]; exact lv_if_le hx hb hd ht (fun c => kt c H locs ls hP hS hl) (fun c => absurd hc c)
  · rw [if_neg hc]; exact lv_if_le hx hb hd ht (fun c => absurd c hc) (fun c => kf c H locs ls hP hS hl)
theorem j_if_le {x : Int32} {off : Int} {tgt : Nat} (hC : tt_Cx G κ cc own nL fr lo) (hd : decode cc pc = .ok (.ifCond .le off, 3)) (ht : (pc : Int) + off = (tgt : Int)) (kt : x ≤ 0 → tt_V G κ T st tgt lv rest) (kf : ¬ x ≤ 0 → tt_V G κ T st (pc + 3) lv rest) : tt_V G κ T st pc lv (.int x :: rest) := by
  obtain ⟨hx, hb, hml, hnL, hown, hts, hK, hJ, hSx, q1, q2, q3, q4⟩ := hC; intro H locs ls hP hS hl
  exact lv_if_le hx hb hd ht (fun c => kt c H locs ls hP hS hl) (fun c => kf c H locs ls hP hS hl)
theorem t_if_le {x : Int32} {off : Int} {tgt : Nat} (hC : tt_Cx G κ cc own nL fr lo) (hd : decode cc pc = .ok (.ifCond .le off, 3)) (ht : (pc : Int) + off = (tgt : Int)) (h : x ≤ 0) (k : tt_V G κ T st tgt lv rest) : tt_V G κ T st pc lv (.int x :: rest) := j_if_le hC hd ht (fun _ => k) (fun c => absurd h c)
theorem f_if_le {x : Int32} {off : Int} {tgt : Nat} (hC : tt_Cx G κ cc own nL fr lo) (hd : decode cc pc = .ok (.ifCond .le off, 3)) (ht : (pc : Int) + off = (tgt : Int)) (h : ¬ x ≤ 0) (k : tt_V G κ T st (pc + 3) lv rest) : tt_V G κ T st pc lv (.int x :: rest) := j_if_le hC hd ht (fun c => absurd c h) (fun _ => k)
theorem r_icmp_eq {x y : Int32} {off : Int} {tgt : Nat} {T1 T2 : α} (hC : tt_Cx G κ cc own nL fr lo) (hd : decode cc pc = .ok (.if_icmp .eq off, 3)) (ht : (pc : Int) + off = (tgt : Int)) (kt : x = y → tt_V G κ T1 st tgt lv rest) (kf : ¬ x = y → tt_V G κ T2 st (pc + 3) lv rest) : tt_V G κ (if x = y then T1 else T2) st pc lv (.int y :: .int x :: rest) := by
  obtain ⟨hx, hb, hml, hnL, hown, hts, hK, hJ, hSx, q1, q2, q3, q4⟩ := hC; intro H locs ls hP hS hl
  by_cases hc : x = y
  · rw [if_pos hc]; exact lv_icmp_eq hx hb hd ht (fun c => kt c H locs ls hP hS hl) (fun c => absurd hc c)
  · rw [if_neg hc]; exact lv_icmp_eq hx hb hd ht (fun c => absurd c hc) (fun c => kf c H locs ls hP hS hl)
theorem j_icmp_eq {x y : Int32} {off : Int} {tgt : Nat} (hC : tt_Cx G κ cc own nL fr lo) (hd : decode cc pc = .ok (.if_icmp .eq off, 3)) (ht : (pc : Int) + off = (tgt : Int)) (kt : x = y → tt_V G κ T st tgt lv rest) (kf : ¬ x = y → tt_V G κ T st (pc + 3) lv rest) : tt_V G κ T st pc lv (.int y :: .int x :: rest) := by
  obtain ⟨hx, hb, hml, hnL, hown, hts, hK, hJ, hSx, q1, q2, q3, q4⟩ := hC; intro H locs ls hP hS hl
  exact lv_icmp_eq hx hb hd ht (fun c => kt c H locs ls hP hS hl) (fun c => kf c H locs ls hP hS hl)
theorem t_icmp_eq {x y : Int32} {off : Int} {tgt : Nat} (hC : tt_Cx G κ cc own nL fr lo) (hd : decode cc pc = .ok (.if_icmp .eq off, 3)) (ht : (pc : Int) + off = (tgt : Int)) (h : x = y) (k : tt_V G κ T st tgt lv rest) : tt_V G κ T st pc lv (.int y :: .int x :: rest) := j_icmp_eq hC hd ht (fun _ => k) (fun c => absurd h c)
theorem f_icmp_eq {x y : Int32} {off : Int} {tgt : Nat} (hC : tt_Cx G κ cc own nL fr lo) (hd : decode cc pc = .ok (.if_icmp .eq off, 3)) (ht : (pc : Int) + off = (tgt : Int)) (h : ¬ x = y) (k : tt_V G κ T st (pc + 3) lv rest) : tt_V G κ T st pc lv (.int y :: .int x :: rest) := j_icmp_eq hC hd ht (fun c => absurd c h) (fun _ => k)
theorem r_icmp_ne {x y : Int32} {off : Int} {tgt : Nat} {T1 T2 : α} (hC : tt_Cx G κ cc own nL fr lo) (hd : decode cc pc = .ok (.if_icmp .ne off, 3)) (ht : (pc : Int) + off = (tgt : Int)) (kt : ¬ x = y → tt_V G κ T2 st tgt lv rest) (kf : x = y → tt_V G κ T1 st (pc + 3) lv rest) : tt_V G κ (if x = y then T1 else T2) st pc lv (.int y :: .int x :: rest) := by
  obtain ⟨hx, hb, hml, hnL, hown, hts, hK, hJ, hSx, q1, q2, q3, q4⟩ := hC; intro H locs ls hP hS hl
  by_cases hc : x = y
  · rw [if_pos hc]; exact lv_icmp_ne hx hb hd ht (fun c => absurd hc c) (fun c => kf c H locs ls hP hS hl)
  · rw [if_neg hc]; exact lv_icmp_ne hx hb hd ht (fun c => kt c H locs ls hP hS hl) (fun c => absurd c hc)
theorem j_icmp_ne {x y : Int32} {off : Int} {tgt : Nat} (hC : tt_Cx G κ cc own nL fr lo) (hd : decode cc pc = .ok (.if_icmp .ne off, 3)) (ht : (pc : Int) + off = (tgt : Int)) (kt : ¬ x = y → tt_V G κ T st tgt lv rest) (kf : x = y → tt_V G κ T st (pc + 3) lv rest) : tt_V G κ T st pc lv (.int y :: .int x :: rest) := by
  obtain ⟨hx, hb, hml, hnL, hown, hts, hK, hJ, hSx, q1, q2, q3, q4⟩ := hC; intro H locs ls hP hS hl
  exact lv_icmp_ne hx hb hd ht (fun c => kt c H locs ls hP hS hl) (fun c => kf c H locs ls hP hS hl)
theorem t_icmp_ne {x y : Int32} {off : Int} {tgt : Nat} (hC : tt_Cx G κ cc own nL fr lo) (hd : decode cc pc = .ok (.if_icmp .ne off, 3)) (ht : (pc : Int) + off = (tgt : Int)) (h : ¬ x = y) (k : tt_V G κ T st tgt lv rest) : tt_V G κ T st pc lv (.int y :: .int x :: rest) := j_icmp_ne hC hd ht (fun _ => k) (fun c => absurd c h)
theorem f_icmp_ne {x y : Int32} {off : Int} {tgt : Nat} (hC : tt_Cx G κ cc own nL fr lo) (hd : decode cc pc = .ok (.if_icmp .ne off, 3)) (ht : (pc : Int) + off = (tgt : Int)) (h : x = y) (k : tt_V G κ T st (pc + 3) lv rest) : tt_V G κ T st pc lv (.int y :: .int x :: rest) := j_icmp_ne hC hd ht (fun c => absurd h c) (fun _ => k)
theorem r_icmp_lt {x y : Int32} {off : Int} {tgt : Nat} {T1 T2 : α} (hC : tt_Cx G κ cc own nL fr lo) (hd : decode cc pc = .ok (.if_icmp .lt off, 3)) (ht : (pc : Int) + off = (tgt : Int)) (kt : x < y → tt_V G κ T1 st tgt lv rest) (kf : ¬ x < y → tt_V G κ T2 st (pc + 3) lv rest) : tt_V G κ (if x < y then T1 else T2) st pc lv (.int y :: .int x :: rest) := by
  obtain ⟨hx, hb, hml, hnL, hown, hts, hK, hJ, hSx, q1, q2, q3, q4⟩ := hC; intro H locs ls hP hS hl
  by_cases hc : x < y
  · rw [if_pos hc]; exact lv_icmp_lt hx hb hd ht (fun c => kt c H locs ls hP hS hl) (fun c => absurd hc c)
  · rw [if_neg hc]; exact lv_icmp_lt hx hb hd ht (fun c => absurd c hc) (fun c => kf c H locs ls hP hS hl)
theorem j_icmp_lt {x y : Int32} {off : Int} {tgt : Nat} (hC : tt_Cx G κ cc own nL fr lo) (hd : decode cc pc = .ok (.if_icmp .lt off, 3)) (ht : (pc : Int) + off = (tgt : Int)) (kt : x < y → tt_V G κ T st tgt lv rest) (kf : ¬ x < y → tt_V G κ T st (pc + 3) lv rest) : tt_V G κ T st pc lv (.int y :: .int x :: rest) := by
  obtain ⟨hx, hb, hml, hnL, hown, hts, hK, hJ, hSx, q1, q2, q3, q4⟩ := hC; intro H locs ls hP hS hl
  exact lv_icmp_lt hx hb hd ht (fun c => kt c H locs ls hP hS hl) (fun c => kf c H locs ls hP hS hl)
theorem t_icmp_lt {x y : Int32} {off : Int} {tgt : Nat} (hC : tt_Cx G κ cc own nL fr lo) (hd : decode cc pc = .ok (.if_icmp .lt off, 3)) (ht : (pc : Int) + off = (tgt : Int)) (h : x < y) (k : tt_V G κ T st tgt lv rest) : tt_V G κ T st pc lv (.int y :: .int x :: rest) := j_icmp_lt hC hd ht (fun _ => k) (fun c => absurd h c)
theorem f_icmp_lt {x y : Int32} {off : Int} {tgt : Nat} (hC : tt_Cx G κ cc own nL fr lo) (hd : decode cc pc = .ok (.if_icmp .lt off, 3)) (ht : (pc : Int) + off = (tgt : Int)) (h : ¬ x < y) (k : tt_V G κ T st (pc + 3) lv rest) : tt_V G κ T st pc lv (.int y :: .int x :: rest) := j_icmp_lt hC hd ht (fun c => absurd c h) (fun _ => k)
theorem r_icmp_ge {x y : Int32} {off : Int} {tgt : Nat} {T1 T2 : α} (hC : tt_Cx G κ cc own nL fr lo) (hd : decode cc pc = .ok (.if_icmp .ge off, 3)) (ht : (pc : Int) + off = (tgt : Int)) (kt : y ≤ x → tt_V G κ T1 st tgt lv rest) (kf : ¬ y ≤ x → tt_V G κ T2 st (pc + 3) lv rest) : tt_V G κ (if y ≤ x then T1 else T2) st pc lv (.int y :: .int x :: rest) := by
  obtain ⟨hx, hb, hml, hnL, hown, hts, hK, hJ, hSx, q1, q2, q3, q4⟩ := hC; intro H locs ls hP hS hl
  by_cases hc : y ≤ x
  · rw [if_pos hc]; exact lv_icmp_ge hx hb hd ht (fun c => kt c H locs ls hP hS hl) (fun c => absurd hc c)
  · rw [if_neg hc]; exact lv_icmp_ge hx hb hd ht (fun c => absurd c hc) (fun c => kf c H locs ls hP hS hl)
theorem j_icmp_ge {x y : Int32} {off : Int} {tgt : Nat} (hC : tt_Cx G κ cc own nL fr lo) (hd : decode cc pc = .ok (.if_icmp .ge off, 3)) (ht : (pc : Int) + off = (tgt : Int)) (kt : y ≤ x → tt_V G κ T st tgt lv rest) (kf : ¬ y ≤ x → tt_V G κ T st (pc + 3) lv rest) : tt_V G κ T st pc lv (.int y :: .int x :: rest) := by
  obtain ⟨hx, hb, hml, hnL, hown, hts, hK, hJ, hSx, q1, q2, q3, q4⟩ := hC; intro H locs ls hP hS hl
  exact lv_icmp_ge hx hb hd ht (fun c => kt c H locs ls hP hS hl) (fun c => kf c H locs ls hP hS hl)
theorem t_icmp_ge {x y : Int32} {off : Int} {tgt : Nat} (hC : tt_Cx G κ cc own nL fr lo) (hd : decode cc pc = .ok (.if_icmp .ge off, 3)) (ht : (pc : Int) + off = (tgt : Int)) (h : y ≤ x) (k : tt_V G κ T st tgt lv rest) : tt_V G κ T st pc lv (.int y :: .int x :: rest) := j_icmp_ge hC hd ht (fun _ => k) (fun c => absurd h c)
theorem f_icmp_ge {x y : Int32} {off : Int} {tgt : Nat} (hC : tt_Cx G κ cc own nL fr lo) (hd : decode cc pc = .ok (.if_icmp .ge off, 3)) (ht : (pc : Int) + off = (tgt : Int)) (h : ¬ y ≤ x) (k : tt_V G κ T st (pc + 3) lv rest) : tt_V G κ T st pc lv (.int y :: .int x :: rest) := j_icmp_ge hC hd ht (fun c => absurd c h) (fun _ => k)
theorem r_icmp_gt {x y : Int32} {off : Int} {tgt : Nat} {T1 T2 : α} (hC : tt_Cx G κ cc own nL fr lo) (hd : decode cc pc = .ok (.if_icmp .gt off, 3)) (ht : (pc : Int) + off = (tgt : Int)) (kt : y < x → tt_V G κ T1 st tgt lv rest) (kf : ¬ y < x → tt_V G κ T2 st (pc + 3) lv rest) : tt_V G κ (if y < x then T1 else T2) st pc lv (.int y :: .int x :: rest) := by
  obtain ⟨hx, hb, hml, hnL, hown, hts, hK, hJ, hSx, q1, q2, q3, q4⟩ := hC; intro H locs ls hP hS hl
  by_cases hc : y < x
  · rw [if_pos hc]; exact lv_icmp_gt hx hb hd ht (fun c => kt c H locs ls hP hS hl) (fun c => absurd hc c)
  · rw [if_neg hc]; exact lv_icmp_gt hx hb hd ht (fun c => absurd c hc) (fun c => kf c H locs ls hP hS hl)
theorem j_icmp_gt {x y : Int32} {off : Int} {tgt : Nat} (hC : tt_Cx G κ cc own nL fr lo) (hd : decode cc pc = .ok (.if_icmp .gt off, 3)) (ht : (pc : Int) + off = (tgt : Int)) (kt : y < x → tt_V G κ T st tgt lv rest) (kf : ¬ y < x → tt_V G κ T st (pc + 3) lv rest) : tt_V G κ T st pc lv (.int y :: .int x :: rest) := by
  obtain ⟨hx, hb, hml, hnL, hown, hts, hK, hJ, hSx, q1, q2, q3, q4⟩ := hC; intro H locs ls hP hS hl
  exact lv_icmp_gt hx hb hd ht (fun c => kt c H locs ls hP hS hl) (fun c => kf c H locs ls hP hS hl)
theorem t_icmp_gt {x y : Int32} {off : Int} {tgt : Nat} (hC : tt_Cx G κ cc own nL fr lo) (hd : decode cc pc = .ok (.if_icmp .gt off, 3)) (ht : (pc : Int) + off = (tgt : Int)) (h : y < x) (k : tt_V G κ T st tgt lv rest) : tt_V G κ T st pc lv (.int y :: .int x :: rest) := j_icmp_gt hC hd ht (fun _ => k) (fun c => absurd h c)
theorem f_icmp_gt {x y : Int32} {off : Int} {tgt : Nat} (hC : tt_Cx G κ cc own nL fr lo) (hd : decode cc pc = .ok (.if_icmp .gt off, 3)) (ht : (pc : Int) + off = (tgt : Int)) (h : ¬ y < x) (k : tt_V G κ T st (pc + 3) lv rest) : tt_V G κ T st pc lv (.int y :: .int x :: rest) := j_icmp_gt hC hd ht (fun c => absurd c h) (fun _ => k)
theorem r_icmp_le {x y : Int32} {off : Int} {tgt : Nat} {T1 T2 : α} (hC : tt_Cx G κ cc own nL fr lo) (hd : decode cc pc = .ok (.if_icmp .le off, 3)) (ht : (pc : Int) + off = (tgt : Int)) (kt : x ≤ y → tt_V G κ T1 st tgt lv rest) (kf : ¬ x ≤ y → tt_V G κ T2 st (pc + 3) lv rest) : tt_V G κ (if x ≤ y then T1 else T2) st pc lv (.int y :: .int x :: rest) := by
  obtain ⟨hx, hb, hml, hnL, hown, hts, hK, hJ, hSx, q1, q2, q3, q4⟩ := hC; intro H locs ls hP hS hl
  by_cases hc : x ≤ y
  · rw [if_pos hc]; exact lv_icmp_le hx hb hd ht (fun c => kt c H locs ls hP hS hl) (fun c => absurd hc c)
  · rw [if_neg hc]; exact lv_icmp_le hx hb hd ht (fun c => absurd c hc) (fun c => kf c H locs ls hP hS hl)
theorem j_icmp_le {x y : Int32} {off : Int} {tgt : Nat} (hC : tt_Cx G κ cc own nL fr lo) (hd : decode cc pc = .ok (.if_icmp .le off, 3)) (ht : (pc : Int) + off = (tgt : Int)) (kt : x ≤ y → tt_V G κ T st tgt lv rest) (kf : ¬ x ≤ y → tt_V G κ T st (pc + 3) lv rest) : tt_V G κ T st pc lv (.int y :: .int x :: rest) := by
  obtain ⟨hx, hb, hml, hnL, hown, hts, hK, hJ, hSx, q1, q2, q3, q4⟩ := hC; intro H locs ls hP hS hl
  exact lv_icmp_le hx hb hd ht (fun c => kt c H locs ls hP hS hl) (fun c => kf c H locs ls hP hS hl)
theorem t_icmp_le {x y : Int32} {off : Int} {tgt : Nat} (hC : tt_Cx G κ cc own nL fr lo) (hd : decode cc pc = .ok (.if_icmp .le off, 3)) (ht : (pc : Int) + off = (tgt : Int)) (h : x ≤ y) (k : tt_V G κ T st tgt lv rest) : tt_V G κ T st pc lv (.int y :: .int x :: rest) := j_icmp_le hC hd ht (fun _ => k) (fun c => absurd h c)
theorem f_icmp_le {x y : Int32} {off : Int} {tgt : Nat} (hC : tt_Cx G κ cc own nL fr lo) (hd : decode cc pc = .ok (.if_icmp .le off, 3)) (ht : (pc : Int) + off = (tgt : Int)) (h : ¬ x ≤ y) (k : tt_V G κ T st (pc + 3) lv rest) : tt_V G κ T st pc lv (.int y :: .int x :: rest) := j_icmp_le hC hd ht (fun c => absurd c h) (fun _ => k)
theorem r_iload_n {q : Fin 4} {x : Int32} (i : Nat) (hC : tt_Cx G κ cc own nL fr lo) (hd : decode cc pc = .ok (.iload_n q, 1)) (hk : lv[i]? = some ((q : Nat), .int x)) (k : tt_V G κ T st (pc + 1) lv (.int x :: rest)) : tt_V G κ T st pc lv rest := by
  obtain ⟨hx, hb, hml, hnL, hown, hts, hK, hJ, hSx, q1, q2, q3, q4⟩ := hC; intro H locs ls hP hS hl
  exact lv_iload_n hx hb hd rfl (lv_at hl i hk) (k H locs ls hP hS hl)
theorem r_iload {j : Nat} {x : Int32} (i : Nat) (hC : tt_Cx G κ cc own nL fr lo) (hd : decode cc pc = .ok (.iload j, 2)) (hk : lv[i]? = some (j, .int x)) (k : tt_V G κ T st (pc + 2) lv (.int x :: rest)) : tt_V G κ T st pc lv rest := by
  obtain ⟨hx, hb, hml, hnL, hown, hts, hK, hJ, hSx, q1, q2, q3, q4⟩ := hC; intro H locs ls hP hS hl
  exact lv_iload hx hb hd (lv_at hl i hk) (k H locs ls hP hS hl)
theorem r_istore {j : Nat} {x : Int32} (lv' : List (Nat × Value)) (hC : tt_Cx G κ cc own nL fr lo) (hd : decode cc pc = .ok (.istore j, 2)) (hn : j < nL) (hl' : (j, Value.int x) :: lv.filter (fun q => !(q.1 == j) && !(q.1 + 1 == j && q.2.category == 2)) = lv') (k : tt_V G κ T st (pc + 2) lv' rest) : tt_V G κ T st pc lv (.int x :: rest) := by
  obtain ⟨hx, hb, hml, hnL, hown, hts, hK, hJ, hSx, q1, q2, q3, q4⟩ := hC; intro H locs ls hP hS hl
  exact lv_istore hx hb hd hl (by rw [hnL]; exact hn) hl' (fun ls' h' => k H locs ls' hP hS h')
theorem r_istore_n {q : Fin 4} {j : Nat} {x : Int32} (lv' : List (Nat × Value)) (hC : tt_Cx G κ cc own nL fr lo) (hd : decode cc pc = .ok (.istore_n q, 1)) (hj : (q : Nat) = j) (hn : j < nL) (hl' : (j, Value.int x) :: lv.filter (fun q => !(q.1 == j) && !(q.1 + 1 == j && q.2.category == 2)) = lv') (k : tt_V G κ T st (pc + 1) lv' rest) : tt_V G κ T st pc lv (.int x :: rest) := by
  obtain ⟨hx, hb, hml, hnL, hown, hts, hK, hJ, hSx, q1, q2, q3, q4⟩ := hC; intro H locs ls hP hS hl
  exact lv_istore_n hx hb hd hj hl (by rw [hnL]; exact hn) hl' (fun ls' h' => k H locs ls' hP hS h')
theorem r_lload_n {q : Fin 4} {x : Int64} (i : Nat) (hC : tt_Cx G κ cc own nL fr lo) (hd : decode cc pc = .ok (.lload_n q, 1)) (hk : lv[i]? = some ((q : Nat), .long x)) (k : tt_V G κ T st (pc + 1) lv (.long x :: rest)) : tt_V G κ T st pc lv rest := by
  obtain ⟨hx, hb, hml, hnL, hown, hts, hK, hJ, hSx, q1, q2, q3, q4⟩ := hC; intro H locs ls hP hS hl
  exact lv_lload_n hx hb hd rfl (lv_at hl i hk) (k H locs ls hP hS hl)
theorem r_lload {j : Nat} {x : Int64} (i : Nat) (hC : tt_Cx G κ cc own nL fr lo) (hd : decode cc pc = .ok (.lload j, 2)) (hk : lv[i]? = some (j, .long x)) (k : tt_V G κ T st (pc + 2) lv (.long x :: rest)) : tt_V G κ T st pc lv rest := by
  obtain ⟨hx, hb, hml, hnL, hown, hts, hK, hJ, hSx, q1, q2, q3, q4⟩ := hC; intro H locs ls hP hS hl
  exact lv_lload hx hb hd (lv_at hl i hk) (k H locs ls hP hS hl)
theorem r_lstore {j : Nat} {x : Int64} (lv' : List (Nat × Value)) (hC : tt_Cx G κ cc own nL fr lo) (hd : decode cc pc = .ok (.lstore j, 2)) (hn : j + 1 < nL) (hl' : (j, Value.long x) :: lv.filter (fun q => !(q.1 == j) && (!(q.1 == j + 1) && !(q.1 + 1 == j && q.2.category == 2))) = lv') (k : tt_V G κ T st (pc + 2) lv' rest) : tt_V G κ T st pc lv (.long x :: rest) := by
  obtain ⟨hx, hb, hml, hnL, hown, hts, hK, hJ, hSx, q1, q2, q3, q4⟩ := hC; intro H locs ls hP hS hl
  exact lv_lstore hx hb hd hl (by rw [hnL]; exact hn) hl' (fun ls' h' => k H locs ls' hP hS h')
theorem r_lstore_n {q : Fin 4} {j : Nat} {x : Int64} (lv' : List (Nat × Value)) (hC : tt_Cx G κ cc own nL fr lo) (hd : decode cc pc = .ok (.lstore_n q, 1)) (hj : (q : Nat) = j) (hn : j + 1 < nL) (hl' : (j, Value.long x) :: lv.filter (fun q => !(q.1 == j) && (!(q.1 == j + 1) && !(q.1 + 1 == j && q.2.category == 2))) = lv') (k : tt_V G κ T st (pc + 1) lv' rest) : tt_V G κ T st pc lv (.long x :: rest) := by
  obtain ⟨hx, hb, hml, hnL, hown, hts, hK, hJ, hSx, q1, q2, q3, q4⟩ := hC; intro H locs ls hP hS hl
  exact lv_lstore_n hx hb hd hj hl (by rw [hnL]; exact hn) hl' (fun ls' h' => k H locs ls' hP hS h')
theorem r_aload_n {q : Fin 4} {x : Nat} (i : Nat) (hC : tt_Cx G κ cc own nL fr lo) (hd : decode cc pc = .ok (.aload_n q, 1)) (hk : lv[i]? = some ((q : Nat), .ref x)) (k : tt_V G κ T st (pc + 1) lv (.ref x :: rest)) : tt_V G κ T st pc lv rest := by
  obtain ⟨hx, hb, hml, hnL, hown, hts, hK, hJ, hSx, q1, q2, q3, q4⟩ := hC; intro H locs ls hP hS hl
  exact lv_aload_n hx hb hd rfl (lv_at hl i hk) (k H locs ls hP hS hl)
theorem r_aload {j : Nat} {x : Nat} (i : Nat) (hC : tt_Cx G κ cc own nL fr lo) (hd : decode cc pc = .ok (.aload j, 2)) (hk : lv[i]? = some (j, .ref x)) (k : tt_V G κ T st (pc + 2) lv (.ref x :: rest)) : tt_V G κ T st pc lv rest := by
  obtain ⟨hx, hb, hml, hnL, hown, hts, hK, hJ, hSx, q1, q2, q3, q4⟩ := hC; intro H locs ls hP hS hl
  exact lv_aload hx hb hd (lv_at hl i hk) (k H locs ls hP hS hl)
theorem r_astore {j : Nat} {x : Nat} (lv' : List (Nat × Value)) (hC : tt_Cx G κ cc own nL fr lo) (hd : decode cc pc = .ok (.astore j, 2)) (hn : j < nL) (hl' : (j, Value.ref x) :: lv.filter (fun q => !(q.1 == j) && !(q.1 + 1 == j && q.2.category == 2)) = lv') (k : tt_V G κ T st (pc + 2) lv' rest) : tt_V G κ T st pc lv (.ref x :: rest) := by
  obtain ⟨hx, hb, hml, hnL, hown, hts, hK, hJ, hSx, q1, q2, q3, q4⟩ := hC; intro H locs ls hP hS hl
  exact lv_astore hx hb hd hl (by rw [hnL]; exact hn) hl' (fun ls' h' => k H locs ls' hP hS h')
theorem r_astore_n {q : Fin 4} {j : Nat} {x : Nat} (lv' : List (Nat × Value)) (hC : tt_Cx G κ cc own nL fr lo) (hd : decode cc pc = .ok (.astore_n q, 1)) (hj : (q : Nat) = j) (hn : j < nL) (hl' : (j, Value.ref x) :: lv.filter (fun q => !(q.1 == j) && !(q.1 + 1 == j && q.2.category == 2)) = lv') (k : tt_V G κ T st (pc + 1) lv' rest) : tt_V G κ T st pc lv (.ref x :: rest) := by
  obtain ⟨hx, hb, hml, hnL, hown, hts, hK, hJ, hSx, q1, q2, q3, q4⟩ := hC; intro H locs ls hP hS hl
  exact lv_astore_n hx hb hd hj hl (by rw [hnL]; exact hn) hl' (fun ls' h' => k H locs ls' hP hS h')
theorem r_iinc {j : Nat} {n : Int} {x : Int32} (i : Nat) (v : Int32) (lv' : List (Nat × Value)) (hC : tt_Cx G κ cc own nL fr lo) (hd : decode cc pc = .ok (.iinc j n, 3)) (hk : lv[i]? = some (j, .int x)) (hv : x + Int32.ofInt n = v) (hn : j < nL) (hl' : (j, Value.int v) :: lv.filter (fun q => !(q.1 == j) && !(q.1 + 1 == j && q.2.category == 2)) = lv') (k : tt_V G κ T st (pc + 3) lv' rest) : tt_V G κ T st pc lv rest := by
  obtain ⟨hx, hb, hml, hnL, hown, hts, hK, hJ, hSx, q1, q2, q3, q4⟩ := hC; intro H locs ls hP hS hl
  exact lv_iinc hx hb hd hl hk hv (by rw [hnL]; exact hn) hl' (fun ls' h' => k H locs ls' hP hS h')
theorem r_sub (lv' : List (Nat × Value)) (ks : List Nat) (hp : lv_pick lv ks = lv') (k : tt_V G κ T st pc lv' rest) : tt_V G κ T st pc lv rest := fun H locs ls hP hS hl => k H locs ls hP hS (lv_sub hl ks hp)
theorem r_ldc {index : Nat} {v : Int32} (hC : tt_Cx G κ cc own nL fr lo) (hd : decode cc pc = .ok (.ldc index, 2)) (hc : Cond.constant own index v ∈ tt_good) (k : tt_V G κ T st (pc + 2) lv (.int v :: rest)) : tt_V G κ T st pc lv rest := by
  obtain ⟨hx, hb, hml, hnL, hown, hts, hK, hJ, hSx, q1, q2, q3, q4⟩ := hC; intro H locs ls hP hS hl
  exact lv_ldc hx hb hown (hts _ hc) hd (k H locs ls hP hS hl)
theorem r_ldcw {index : Nat} {v : Int32} (hC : tt_Cx G κ cc own nL fr lo) (hd : decode cc pc = .ok (.ldc_w index, 3)) (hc : Cond.constant own index v ∈ tt_good) (k : tt_V G κ T st (pc + 3) lv (.int v :: rest)) : tt_V G κ T st pc lv rest := by
  obtain ⟨hx, hb, hml, hnL, hown, hts, hK, hJ, hSx, q1, q2, q3, q4⟩ := hC; intro H locs ls hP hS hl
  exact lv_ldcw hx hb hown (hts _ hc) hd (k H locs ls hP hS hl)
theorem r_ldc2 {index : Nat} {v : Int64} (hC : tt_Cx G κ cc own nL fr lo) (hd : decode cc pc = .ok (.ldc2_w index, 3)) (hc : Cond.constantLong own index v ∈ tt_good) (k : tt_V G κ T st (pc + 3) lv (.long v :: rest)) : tt_V G κ T st pc lv rest := by
  obtain ⟨hx, hb, hml, hnL, hown, hts, hK, hJ, hSx, q1, q2, q3, q4⟩ := hC; intro H locs ls hP hS hl
  exact lv_ldc2 hx hb hown (hts _ hc) hd (k H locs ls hP hS hl)
theorem r_tabOut {dflt lo1 hi1 : Int} {offs : Array Int} {len : Nat} {x : Int32} {tgt : Nat} (hC : tt_Cx G κ cc own nL fr lo) (hd : decode cc pc = .ok (.tableswitch dflt lo1 hi1 offs, len)) (h : x.toInt < lo1 ∨ hi1 < x.toInt) (ht : (pc : Int) + dflt = (tgt : Int)) (k : tt_V G κ T st tgt lv rest) : tt_V G κ T st pc lv (.int x :: rest) := by
  obtain ⟨hx, hb, hml, hnL, hown, hts, hK, hJ, hSx, q1, q2, q3, q4⟩ := hC; intro H locs ls hP hS hl
  exact lv_tableOut hx hb hd h ht (k H locs ls hP hS hl)
theorem r_tabIn {dflt lo1 hi1 : Int} {offs : Array Int} {len : Nat} {x : Int32} {off : Int} {tgt : Nat} (hC : tt_Cx G κ cc own nL fr lo) (hd : decode cc pc = .ok (.tableswitch dflt lo1 hi1 offs, len)) (h1 : ¬ x.toInt < lo1) (h2 : ¬ hi1 < x.toInt) (ho : offs[(x.toInt - lo1).toNat]? = some off) (ht : (pc : Int) + off = (tgt : Int)) (k : tt_V G κ T st tgt lv rest) : tt_V G κ T st pc lv (.int x :: rest) := by
  obtain ⟨hx, hb, hml, hnL, hown, hts, hK, hJ, hSx, q1, q2, q3, q4⟩ := hC; intro H locs ls hP hS hl
  exact lv_tableIn hx hb hd h1 h2 ho ht (k H locs ls hP hS hl)
theorem r_look {dflt : Int} {ps : Array (Int × Int)} {len : Nat} {x : Int32} {off : Int} {tgt : Nat} (hC : tt_Cx G κ cc own nL fr lo) (hd : decode cc pc = .ok (.lookupswitch dflt ps, len)) (hp : (ps.toList.zip (ps.toList.drop 1)).all (fun (a, next) => a.1 < next.1) = true) (ho : Op.lookupswitch.offset ps.toList dflt x.toInt = off) (ht : (pc : Int) + off = (tgt : Int)) (k : tt_V G κ T st tgt lv rest) : tt_V G κ T st pc lv (.int x :: rest) := by
  obtain ⟨hx, hb, hml, hnL, hown, hts, hK, hJ, hSx, q1, q2, q3, q4⟩ := hC; intro H locs ls hP hS hl
  exact lv_lookup hx hb hd hp ho ht (k H locs ls hP hS hl)
/-! fields -/
/-- the pool's entry is this field of this class -/
def tt_FL (own : String) (index ci f : Nat) : Prop := ∃ (C : String) (F : u_T) (N : Nat), tt_cl[ci]? = some (C, F, N) ∧ f < N ∧ tt_nf ci = N ∧ Cond.fieldLink own index C (F f).2.1 (F f).2.2.1 ∈ tt_good ∧ (F f).1 = C ∧ (∀ w ∈ u_ws C F N, w ∈ tt_good)
theorem r_getI {index ci f o : Nat} (hC : tt_Cx G κ cc own nL fr lo) (hd : decode cc pc = .ok (.getfield index, 3)) (hf : tt_FL own index ci f) (hk : tt_kd ci f = 0) (ho : tt_ci o = ci) (k : tt_V G κ T st (pc + 3) lv (.int (tt_I st o f) :: rest)) : tt_V G κ T st pc lv (.ref (tt_ad G o) :: rest) := by
  obtain ⟨hx, hb, hml, hnL, hown, hts, hK, hJ, hSx, q1, q2, q3, q4⟩ := hC; intro H locs ls hP hS hl
  obtain ⟨C, F, N, e1, e2, e3, e4, e5, e6⟩ := hf
  have hlt : tt_ci o < 6 := by rw [ho]; exact (List.getElem?_eq_some_iff.mp e1).1
  have hE := tt_ws_get G st (tt_ci_lt hlt)
  rw [tt_E_obj hlt, ho] at hE
  have hv : (tt_fs G st o)[f]? = some (.int (tt_I st o f)) := by
    rw [tt_fs_get (by rw [ho, e3]; exact e2)]
    simp [tt_fv, ho, hk]
  exact va_get hx hb hts e6 hown hK hP o hE e1 f e2 (hts _ e4) (by rw [e5]; exact fun _ h => h) hv hd (k H locs ls hP hS hl)
theorem r_getR {index ci f o r : Nat} (hC : tt_Cx G κ cc own nL fr lo) (hd : decode cc pc = .ok (.getfield index, 3)) (hf : tt_FL own index ci f) (hk : tt_kd ci f = 1) (ho : tt_ci o = ci) (hr : tt_R o f = r) (k : tt_V G κ T st (pc + 3) lv (.ref (tt_ad G r) :: rest)) : tt_V G κ T st pc lv (.ref (tt_ad G o) :: rest) := by
  obtain ⟨hx, hb, hml, hnL, hown, hts, hK, hJ, hSx, q1, q2, q3, q4⟩ := hC; intro H locs ls hP hS hl
  obtain ⟨C, F, N, e1, e2, e3, e4, e5, e6⟩ := hf
  have hlt : tt_ci o < 6 := by rw [ho]; exact (List.getElem?_eq_some_iff.mp e1).1
  have hE := tt_ws_get G st (tt_ci_lt hlt)
  rw [tt_E_obj hlt, ho] at hE
  have hv : (tt_fs G st o)[f]? = some (.ref (tt_ad G r)) := by
    rw [tt_fs_get (by rw [ho, e3]; exact e2)]
    simp [tt_fv, ho, hk, hr]
  exact va_get hx hb hts e6 hown hK hP o hE e1 f e2 (hts _ e4) (by rw [e5]; exact fun _ h => h) hv hd (k H locs ls hP hS hl)
theorem r_getL {index ci f o : Nat} (hC : tt_Cx G κ cc own nL fr lo) (hd : decode cc pc = .ok (.getfield index, 3)) (hf : tt_FL own index ci f) (hk : tt_kd ci f = 2) (ho : tt_ci o = ci) (k : tt_V G κ T st (pc + 3) lv (.long (tt_L st o f) :: rest)) : tt_V G κ T st pc lv (.ref (tt_ad G o) :: rest) := by
  obtain ⟨hx, hb, hml, hnL, hown, hts, hK, hJ, hSx, q1, q2, q3, q4⟩ := hC; intro H locs ls hP hS hl
  obtain ⟨C, F, N, e1, e2, e3, e4, e5, e6⟩ := hf
  have hlt : tt_ci o < 6 := by rw [ho]; exact (List.getElem?_eq_some_iff.mp e1).1
  have hE := tt_ws_get G st (tt_ci_lt hlt)
  rw [tt_E_obj hlt, ho] at hE
  have hv : (tt_fs G st o)[f]? = some (.long (tt_L st o f)) := by
    rw [tt_fs_get (by rw [ho, e3]; exact e2)]
    simp [tt_fv, ho, hk]
  exact va_get hx hb hts e6 hown hK hP o hE e1 f e2 (hts _ e4) (by rw [e5]; exact fun _ h => h) hv hd (k H locs ls hP hS hl)
/-- what a store into this field asks -/
def tt_FP (ci f : Nat) (ty : FieldType) : Prop := ∃ (C : String) (F : u_T) (N : Nat) (ty0 : Nat → FieldType), tt_cl[ci]? = some (C, F, N) ∧ (∀ k, k < N → parseFieldDescriptor (F k).2.2.1 = some (ty0 k)) ∧ (∀ a, a < N → ∀ b, b < N → a ≠ b → (F a).2.1 ≠ (F b).2.1) ∧ (F f).2.2.2 = false ∧ parseFieldDescriptor (F f).2.2.1 = some ty
theorem r_putI {index ci f o : Nat} {v : Int32} {ty : FieldType} (hC : tt_Cx G κ cc own nL fr lo) (hd : decode cc pc = .ok (.putfield index, 3)) (hf : tt_FL own index ci f) (hp : tt_FP ci f ty) (hk : tt_kd ci f = 0) (ho : tt_ci o = ci) (hn : narrow ty (.int v) = .int v) (hfit : fits ty (.int v) = true) (k : tt_V G κ T (tt_pI st o f v) (pc + 3) lv rest) : tt_V G κ T st pc lv (.int v :: .ref (tt_ad G o) :: rest) := by
  obtain ⟨hx, hb, hml, hnL, hown, hts, hK, hJ, hSx, q1, q2, q3, q4⟩ := hC; intro H locs ls hP hS hl
  obtain ⟨C, F, N, e1, e2, e3, e4, e5, e6⟩ := hf
  obtain ⟨C', F', N', ty0, p1, p2, p3, p4, p5⟩ := hp
  cases e1.symm.trans p1
  have hlt : tt_ci o < 6 := by rw [ho]; exact (List.getElem?_eq_some_iff.mp e1).1
  have hE := tt_ws_get G st (tt_ci_lt hlt)
  rw [tt_E_obj hlt, ho] at hE
  have hset : (tt_ws G st).set o (tt_ad G o, .inr (ci, (tt_fs G st o).set f (.int v))) = tt_ws G (tt_pI st o f v) := by
    rw [← tt_ws_set (st := st) (st' := tt_pI st o f v) (tt_ci_lt hlt) (fun j hj => tt_E_pI hj), tt_E_obj hlt, tt_fs_pI (by rw [ho]; exact hk), ho]
  refine va_put hx hb hts e6 ty0 p2 p3 hown hK hP (tt_D hJ st) hS o hE e1 f e2 (hts _ e4) (by rw [e5]; exact fun _ h => h) p4 p5 hn hfit (by rw [tt_fs_len, ho, e3]; exact e2) hd (fun H1 locs1 hP1 hD1 hS1 => ?_)
  rw [hset] at hP1
  exact k H1 locs1 ls hP1 hS1 hl
theorem r_putL {index ci f o : Nat} {v : Int64} (hC : tt_Cx G κ cc own nL fr lo) (hd : decode cc pc = .ok (.putfield index, 3)) (hf : tt_FL own index ci f) (hp : tt_FP ci f .long) (hk : tt_kd ci f = 2) (ho : tt_ci o = ci) (k : tt_V G κ T (tt_pL st o f v) (pc + 3) lv rest) : tt_V G κ T st pc lv (.long v :: .ref (tt_ad G o) :: rest) := by
  obtain ⟨hx, hb, hml, hnL, hown, hts, hK, hJ, hSx, q1, q2, q3, q4⟩ := hC; intro H locs ls hP hS hl
  obtain ⟨C, F, N, e1, e2, e3, e4, e5, e6⟩ := hf
  obtain ⟨C', F', N', ty0, p1, p2, p3, p4, p5⟩ := hp
  cases e1.symm.trans p1
  have hlt : tt_ci o < 6 := by rw [ho]; exact (List.getElem?_eq_some_iff.mp e1).1
  have hE := tt_ws_get G st (tt_ci_lt hlt)
  rw [tt_E_obj hlt, ho] at hE
  have hset : (tt_ws G st).set o (tt_ad G o, .inr (ci, (tt_fs G st o).set f (.long v))) = tt_ws G (tt_pL st o f v) := by
    rw [← tt_ws_set (st := st) (st' := tt_pL st o f v) (tt_ci_lt hlt) (fun j hj => tt_E_pL hj), tt_E_obj hlt, tt_fs_pL (by rw [ho]; exact hk), ho]
  refine va_put hx hb hts e6 ty0 p2 p3 hown hK hP (tt_D hJ st) hS o hE e1 f e2 (hts _ e4) (by rw [e5]; exact fun _ h => h) p4 p5 rfl rfl (by rw [tt_fs_len, ho, e3]; exact e2) hd (fun H1 locs1 hP1 hD1 hS1 => ?_)
  rw [hset] at hP1
  exact k H1 locs1 ls hP1 hS1 hl
/-! arrays -/
theorem tt_E_arr {G : tt_G} {st : tt_St} {o t n : Nat} (ho : tt_ci o = 9) (ht : tt_at o = t) (h1 : t ≤ 1) (hn : tt_len o = n) : tt_E G st o = .inl (tt_cA G t, n, .inl (tt_A st o)) := by
  rw [tt_E, if_neg (by omega), if_pos (by omega), ht, hn]
theorem r_iald {o n : Nat} {i : Int32} (hC : tt_Cx G κ cc own nL fr lo) (hd : decode cc pc = .ok (.iaload, 1)) (ho : tt_ci o = 9) (ho2 : o < 76) (ht : tt_at o = 0) (hn : tt_len o = n) (hi : vp_in i n) (k : tt_V G κ T st (pc + 1) lv (.int (tt_A st o i.toNatClampNeg) :: rest)) : tt_V G κ T st pc lv (.int i :: .ref (tt_ad G o) :: rest) := by
  obtain ⟨hx, hb, hml, hnL, hown, hts, hK, hJ, hSx, q1, q2, q3, q4⟩ := hC; intro H locs ls hP hS hl
  have hE := tt_ws_get G st ho2
  rw [tt_E_arr ho ht (by omega) hn] at hE
  exact va_iald hx hb hK hP o 0 hE rfl hi hd (k H locs ls hP hS hl)
theorem r_bald {o n : Nat} {i : Int32} (hC : tt_Cx G κ cc own nL fr lo) (hd : decode cc pc = .ok (.baload, 1)) (ho : tt_ci o = 9) (ho2 : o < 76) (ht : tt_at o = 1) (hn : tt_len o = n) (hi : vp_in i n) (k : tt_V G κ T st (pc + 1) lv (.int (tt_A st o i.toNatClampNeg) :: rest)) : tt_V G κ T st pc lv (.int i :: .ref (tt_ad G o) :: rest) := by
  obtain ⟨hx, hb, hml, hnL, hown, hts, hK, hJ, hSx, q1, q2, q3, q4⟩ := hC; intro H locs ls hP hS hl
  have hE := tt_ws_get G st ho2
  rw [tt_E_arr ho ht (by omega) hn] at hE
  exact va_bald hx hb hK hP o 1 hE rfl hi hd (k H locs ls hP hS hl)
theorem tt_set_arr {G : tt_G} {st : tt_St} {o t n i : Nat} {v : Int32} (ho : tt_ci o = 9) (ho2 : o < 76) (ht : tt_at o = t) (h1 : t ≤ 1) (hn : tt_len o = n) : (tt_ws G st).set o (tt_ad G o, .inl (tt_cA G t, n, .inl (upd (tt_A st o) i v))) = tt_ws G (tt_pA st o i v) := by
  rw [← tt_ws_set (st := st) (st' := tt_pA st o i v) ho2 (fun j hj => tt_E_pA hj), tt_E_arr ho ht h1 hn, tt_A_pA]
theorem r_iast {o n : Nat} {i v : Int32} (hC : tt_Cx G κ cc own nL fr lo) (hd : decode cc pc = .ok (.iastore, 1)) (ho : tt_ci o = 9) (ho2 : o < 76) (ht : tt_at o = 0) (hn : tt_len o = n) (hi : vp_in i n) (k : tt_V G κ T (tt_pA st o i.toNatClampNeg v) (pc + 1) lv rest) : tt_V G κ T st pc lv (.int v :: .int i :: .ref (tt_ad G o) :: rest) := by
  obtain ⟨hx, hb, hml, hnL, hown, hts, hK, hJ, hSx, q1, q2, q3, q4⟩ := hC; intro H locs ls hP hS hl
  have hE := tt_ws_get G st ho2
  rw [tt_E_arr ho ht (by omega) hn] at hE
  refine va_iast hx hb hK hP (tt_D hJ st) hS o 0 hE rfl hi hd (fun H1 locs1 hP1 hD1 hS1 => ?_)
  rw [tt_set_arr ho ho2 ht (by omega) hn] at hP1
  exact k H1 locs1 ls hP1 hS1 hl
theorem r_bast {o n : Nat} {i v : Int32} (hC : tt_Cx G κ cc own nL fr lo) (hd : decode cc pc = .ok (.bastore, 1)) (ho : tt_ci o = 9) (ho2 : o < 76) (ht : tt_at o = 1) (hn : tt_len o = n) (hi : vp_in i n) (k : tt_V G κ T (tt_pA st o i.toNatClampNeg (vp_nar .byte v)) (pc + 1) lv rest) : tt_V G κ T st pc lv (.int v :: .int i :: .ref (tt_ad G o) :: rest) := by
  obtain ⟨hx, hb, hml, hnL, hown, hts, hK, hJ, hSx, q1, q2, q3, q4⟩ := hC; intro H locs ls hP hS hl
  have hE := tt_ws_get G st ho2
  rw [tt_E_arr ho ht (by omega) hn] at hE
  refine va_bast hx hb hK hP (tt_D hJ st) hS o 1 hE rfl hi hd (fun H1 locs1 hP1 hD1 hS1 => ?_)
  rw [tt_set_arr ho ho2 ht (by omega) hn] at hP1
  exact k H1 locs1 ls hP1 hS1 hl
theorem r_alen {o n : Nat} {v : Int32} (hC : tt_Cx G κ cc own nL fr lo) (hd : decode cc pc = .ok (.arraylength, 1)) (ho : tt_ci o = 9) (ho2 : o < 76) (ht : tt_at o = 0) (hn : tt_len o = n) (hv : Int32.ofNat n = v) (k : tt_V G κ T st (pc + 1) lv (.int v :: rest)) : tt_V G κ T st pc lv (.ref (tt_ad G o) :: rest) := by
  obtain ⟨hx, hb, hml, hnL, hown, hts, hK, hJ, hSx, q1, q2, q3, q4⟩ := hC; intro H locs ls hP hS hl
  have hE := tt_ws_get G st ho2
  rw [tt_E_arr ho ht (by omega) hn] at hE
  exact va_alen hx hb hK hP o 0 hE (ty := .int) rfl hv hd (k H locs ls hP hS hl)
theorem tt_E_ref {G : tt_G} {st : tt_St} {o t n : Nat} (ho : tt_ci o = 9) (ht : tt_at o = t) (h1 : 1 < t) (hn : tt_len o = n) : tt_E G st o = .inl (tt_cA G t, n, .inr (.inr (.inr (.inr (fun j => some (tt_ad G (tt_RA o j))))))) := by
  rw [tt_E, if_neg (by omega), if_neg (by omega), ht, hn]
theorem r_aald {o n t r : Nat} {i : Int32} {C : String} (hC : tt_Cx G κ cc own nL fr lo) (hd : decode cc pc = .ok (.aaload, 1)) (ho : tt_ci o = 9) (ho2 : o < 76) (ht : tt_at o = t) (h1 : 1 < t) (hC2 : ∀ G : tt_G, (tt_tys G)[t]? = some (tt_cA G t, .object C)) (hn : tt_len o = n) (hi : vp_in i n) (hr : tt_RA o i.toNatClampNeg = r) (k : tt_V G κ T st (pc + 1) lv (.ref (tt_ad G r) :: rest)) : tt_V G κ T st pc lv (.int i :: .ref (tt_ad G o) :: rest) := by
  obtain ⟨hx, hb, hml, hnL, hown, hts, hK, hJ, hSx, q1, q2, q3, q4⟩ := hC; intro H locs ls hP hS hl
  have hE := tt_ws_get G st ho2
  rw [tt_E_ref ho ht h1 hn] at hE
  refine va_aldq hx hb hK hP o t hE (hC2 G) hi hd ?_
  rw [hr]
  exact k H locs ls hP hS hl
/-! statics -/
theorem r_gets {index j : Nat} (hC : tt_Cx G κ cc own nL fr lo) (hd : decode cc pc = .ok (.getstatic index, 3)) (hj : j < 3) (hw : Cond.fieldLink own index "TideTable" (tt_sN j) "[I" ∈ tt_good) (k : tt_V G κ T st (pc + 3) lv (.ref (tt_sa G j) :: rest)) : tt_V G κ T st pc lv rest := by
  obtain ⟨hx, hb, hml, hnL, hown, hts, hK, hJ, hSx, q1, q2, q3, q4⟩ := hC; intro H locs ls hP hS hl
  exact va_gets hx hb (hSx.1 j hj).1 hS hown (hts _ hw) (fun _ h => h) hd (k H locs ls hP hS hl)
theorem r_tald {j : Nat} {i : Int32} (hC : tt_Cx G κ cc own nL fr lo) (hd : decode cc pc = .ok (.iaload, 1)) (hj : j < 3) (hi : vp_in i (tt_sn j)) (k : tt_V G κ T st (pc + 1) lv (.int (tt_sv j i.toNatClampNeg) :: rest)) : tt_V G κ T st pc lv (.int i :: .ref (tt_sa G j) :: rest) := by
  obtain ⟨hx, hb, hml, hnL, hown, hts, hK, hJ, hSx, q1, q2, q3, q4⟩ := hC; intro H locs ls hP hS hl
  exact va_ti hx hb (hSx.1 j hj).2 hS hi rfl hd (k H locs ls hP hS hl)
theorem r_tlen {j : Nat} {v : Int32} (hC : tt_Cx G κ cc own nL fr lo) (hd : decode cc pc = .ok (.arraylength, 1)) (hj : j < 3) (hv : Int32.ofNat (tt_sn j) = v) (k : tt_V G κ T st (pc + 1) lv (.int v :: rest)) : tt_V G κ T st pc lv (.ref (tt_sa G j) :: rest) := by
  obtain ⟨hx, hb, hml, hnL, hown, hts, hK, hJ, hSx, q1, q2, q3, q4⟩ := hC; intro H locs ls hP hS hl
  exact va_tlen hx hb (hSx.1 j hj).2 hS hv hd (k H locs ls hP hS hl)
/-! ends -/
theorem r_iret {v : Int32} {ty : FieldType} {mk : α → Option Value × tt_St} (hC : tt_Cx G κ cc own nL fr lo) (hR : tt_Rt G κ (some ty) mk) (hd : decode cc pc = .ok (.ireturn, 1)) (hn : narrow ty (.int v) = .int v) (hT : mk T = (some (.int v), st)) : tt_V G κ T st pc lv [.int v] := by
  obtain ⟨hx, hb, hml, hnL, hown, hts, hK, hJ, hSx, q1, q2, q3, q4⟩ := hC; intro H locs ls hP hS hl
  obtain ⟨r1, r2, r3, r4⟩ := hR
  show W _ _ _ _ _ _ _ _ _ _ _ _ _ _ _ _
  rw [r4, r3, hT]
  exact W.zret hx hb r1 hn (fun t ht hW => ⟨rfl, by rw [ht]; exact hP, hS.F ht⟩) hS.2.2 hd r2
theorem r_lret {v : Int64} {mk : α → Option Value × tt_St} (hC : tt_Cx G κ cc own nL fr lo) (hR : tt_Rt G κ (some .long) mk) (hd : decode cc pc = .ok (.lreturn, 1)) (hT : mk T = (some (.long v), st)) : tt_V G κ T st pc lv [.long v] := by
  obtain ⟨hx, hb, hml, hnL, hown, hts, hK, hJ, hSx, q1, q2, q3, q4⟩ := hC; intro H locs ls hP hS hl
  obtain ⟨r1, r2, r3, r4⟩ := hR
  show W _ _ _ _ _ _ _ _ _ _ _ _ _ _ _ _
  rw [r4, r3, hT]
  exact W.lret hx hb r1 (fun t ht hW => ⟨rfl, by rw [ht]; exact hP, hS.F ht⟩) hS.2.2 hd r2
theorem r_vret {mk : α → Option Value × tt_St} (hC : tt_Cx G κ cc own nL fr lo) (hR : tt_Rt G κ none mk) (hd : decode cc pc = .ok (.return_, 1)) (hT : mk T = (none, st)) : tt_V G κ T st pc lv [] := by
  obtain ⟨hx, hb, hml, hnL, hown, hts, hK, hJ, hSx, q1, q2, q3, q4⟩ := hC; intro H locs ls hP hS hl
  obtain ⟨r1, r2, r3, r4⟩ := hR
  show W _ _ _ _ _ _ _ _ _ _ _ _ _ _ _ _
  rw [r4, r3, hT]
  exact W.vret hx hb r1 (fun t ht hW => ⟨rfl, by rw [ht]; exact hP, hS.F ht⟩) hS.2.2 hd r2

end TR
end
section
def y_pg_init : MethodName := ⟨"TideTable$Page", "<init>", "()V"⟩
theorem mw_pg_init : tt_Mw y_pg_init prog_2_method_1_code 1 none 0 := ⟨List.mem_of_getElem? (i := 67) (by decide +kernel), List.mem_of_getElem? (i := 44) (by decide +kernel), by decide, by decide, by decide⟩
theorem mi_pg_init : Cond.instanceMethod y_pg_init ∈ tt_good := List.mem_of_getElem? (i := 66) (by decide +kernel)
theorem fl_pg_9 : tt_FL "TideTable$Page" 9 0 0 := ⟨_, _, _, rfl, by decide, rfl, List.mem_of_getElem? (i := 69) (by decide +kernel), rfl, i_Pg⟩
def y_pg_firstWrong : MethodName := ⟨"TideTable$Page", "firstWrong", "()I"⟩
theorem mw_pg_firstWrong : tt_Mw y_pg_firstWrong prog_2_method_2_code 2 (some .int) 0 := ⟨List.mem_of_getElem? (i := 208) (by decide +kernel), List.mem_of_getElem? (i := 44) (by decide +kernel), by decide, by decide, by decide⟩
theorem mi_pg_firstWrong : Cond.instanceMethod y_pg_firstWrong ∈ tt_good := List.mem_of_getElem? (i := 206) (by decide +kernel)
theorem mz_pg_firstWrong : Cond.selects "TideTable$Page" y_pg_firstWrong y_pg_firstWrong ∈ tt_good := List.mem_of_getElem? (i := 207) (by decide +kernel)
theorem fl_pg_15 : tt_FL "TideTable$Page" 15 0 2 := ⟨_, _, _, rfl, by decide, rfl, List.mem_of_getElem? (i := 73) (by decide +kernel), rfl, i_Pg⟩
theorem fp_0_2 : tt_FP 0 2 .int := ⟨_, _, _, t_Pg, rfl, t_Pg_ok, n_Pg, rfl, by decide +kernel⟩
theorem fl_pg_19 : tt_FL "TideTable$Page" 19 0 3 := ⟨_, _, _, rfl, by decide, rfl, List.mem_of_getElem? (i := 74) (by decide +kernel), rfl, i_Pg⟩
theorem fp_0_3 : tt_FP 0 3 .int := ⟨_, _, _, t_Pg, rfl, t_Pg_ok, n_Pg, rfl, by decide +kernel⟩
theorem fl_pg_22 : tt_FL "TideTable$Page" 22 0 1 := ⟨_, _, _, rfl, by decide, rfl, List.mem_of_getElem? (i := 71) (by decide +kernel), rfl, i_Pg⟩
def y_pg_canEndAhead : MethodName := ⟨"TideTable$Page", "canEndAhead", "(I)Z"⟩
theorem mw_pg_canEndAhead : tt_Mw y_pg_canEndAhead prog_2_method_4_code 3 (some .boolean) 1 := ⟨List.mem_of_getElem? (i := 211) (by decide +kernel), List.mem_of_getElem? (i := 44) (by decide +kernel), by decide, by decide, by decide⟩
theorem mi_pg_canEndAhead : Cond.instanceMethod y_pg_canEndAhead ∈ tt_good := List.mem_of_getElem? (i := 210) (by decide +kernel)
theorem mz_pg_canEndAhead : Cond.selects "TideTable$Page" y_pg_canEndAhead y_pg_canEndAhead ∈ tt_good := List.mem_of_getElem? (i := 0) (by decide +kernel)
theorem ml_pg_25 : Cond.methodLink "TideTable$Page" 25 y_pg_canEndAhead ∈ tt_good := List.mem_of_getElem? (i := 209) (by decide +kernel)
def y_pg_fits : MethodName := ⟨"TideTable$Page", "fits", "(I)Z"⟩
theorem mw_pg_fits : tt_Mw y_pg_fits prog_2_method_5_code 9 (some .boolean) 1 := ⟨List.mem_of_getElem? (i := 214) (by decide +kernel), List.mem_of_getElem? (i := 44) (by decide +kernel), by decide, by decide, by decide⟩
theorem mi_pg_fits : Cond.instanceMethod y_pg_fits ∈ tt_good := List.mem_of_getElem? (i := 213) (by decide +kernel)
theorem mz_pg_fits : Cond.selects "TideTable$Page" y_pg_fits y_pg_fits ∈ tt_good := List.mem_of_getElem? (i := 1) (by decide +kernel)
theorem ml_pg_29 : Cond.methodLink "TideTable$Page" 29 y_pg_fits ∈ tt_good := List.mem_of_getElem? (i := 212) (by decide +kernel)
def y_pg_isWhole : MethodName := ⟨"TideTable$Page", "isWhole", "()Z"⟩
theorem mw_pg_isWhole : tt_Mw y_pg_isWhole prog_2_method_3_code 1 (some .boolean) 0 := ⟨List.mem_of_getElem? (i := 307) (by decide +kernel), List.mem_of_getElem? (i := 44) (by decide +kernel), by decide, by decide, by decide⟩
theorem mi_pg_isWhole : Cond.instanceMethod y_pg_isWhole ∈ tt_good := List.mem_of_getElem? (i := 305) (by decide +kernel)
theorem mz_pg_isWhole : Cond.selects "TideTable$Page" y_pg_isWhole y_pg_isWhole ∈ tt_good := List.mem_of_getElem? (i := 306) (by decide +kernel)
theorem ml_pg_32 : Cond.methodLink "TideTable$Page" 32 y_pg_firstWrong ∈ tt_good := List.mem_of_getElem? (i := 308) (by decide +kernel)
def y_pg_kindOf : MethodName := ⟨"TideTable$Page", "kindOf", "(I)I"⟩
theorem mw_pg_kindOf : tt_Mw y_pg_kindOf prog_2_method_6_code 1 (some .int) 1 := ⟨List.mem_of_getElem? (i := 217) (by decide +kernel), List.mem_of_getElem? (i := 44) (by decide +kernel), by decide, by decide, by decide⟩
theorem ms_pg_kindOf : Cond.static y_pg_kindOf ∈ tt_good := List.mem_of_getElem? (i := 216) (by decide +kernel)
theorem ml_pg_36 : Cond.methodLink "TideTable$Page" 36 y_pg_kindOf ∈ tt_good := List.mem_of_getElem? (i := 215) (by decide +kernel)
def y_tb_within : MethodName := ⟨"TideTable", "within", "(III)Z"⟩
theorem mw_tb_within : tt_Mw y_tb_within prog_1_method_34_code 3 (some .boolean) 3 := ⟨List.mem_of_getElem? (i := 196) (by decide +kernel), List.mem_of_getElem? (i := 43) (by decide +kernel), by decide, by decide, by decide⟩
theorem ms_tb_within : Cond.static y_tb_within ∈ tt_good := List.mem_of_getElem? (i := 195) (by decide +kernel)
theorem ml_pg_40 : Cond.methodLinkNest "TideTable$Page" 40 y_tb_within "TideTable" ∈ tt_nest := by decide +kernel
def y_sr_indexOf : MethodName := ⟨"java/lang/String", "indexOf", "(I)I"⟩
theorem mw_sr_indexOf : tt_Mw y_sr_indexOf prog_11_method_79_code 2 (some .int) 1 := ⟨List.mem_of_getElem? (i := 221) (by decide +kernel), List.mem_of_getElem? (i := 49) (by decide +kernel), by decide, by decide, by decide⟩
theorem mi_sr_indexOf : Cond.instanceMethod y_sr_indexOf ∈ tt_good := List.mem_of_getElem? (i := 219) (by decide +kernel)
theorem mz_sr_indexOf : Cond.selects "java/lang/String" y_sr_indexOf y_sr_indexOf ∈ tt_good := List.mem_of_getElem? (i := 220) (by decide +kernel)
theorem ml_pg_46 : Cond.methodLink "TideTable$Page" 46 y_sr_indexOf ∈ tt_good := List.mem_of_getElem? (i := 218) (by decide +kernel)
def y_pg_readInto : MethodName := ⟨"TideTable$Page", "readInto", "(LTideTable$Sea;)V"⟩
theorem mw_pg_readInto : tt_Mw y_pg_readInto prog_2_method_7_code 3 none 1 := ⟨List.mem_of_getElem? (i := 312) (by decide +kernel), List.mem_of_getElem? (i := 44) (by decide +kernel), by decide, by decide, by decide⟩
theorem mi_pg_readInto : Cond.instanceMethod y_pg_readInto ∈ tt_good := List.mem_of_getElem? (i := 310) (by decide +kernel)
theorem mz_pg_readInto : Cond.selects "TideTable$Page" y_pg_readInto y_pg_readInto ∈ tt_good := List.mem_of_getElem? (i := 311) (by decide +kernel)
theorem fl_pg_51 : tt_FL "TideTable$Page" 51 2 1 := ⟨_, _, _, rfl, by decide, rfl, List.mem_of_getElem? (i := 157) (by decide +kernel), rfl, i_Se⟩
theorem fp_2_1 : tt_FP 2 1 .int := ⟨_, _, _, t_Se, rfl, t_Se_ok, n_Se, rfl, by decide +kernel⟩
theorem fl_pg_54 : tt_FL "TideTable$Page" 54 2 2 := ⟨_, _, _, rfl, by decide, rfl, List.mem_of_getElem? (i := 159) (by decide +kernel), rfl, i_Se⟩
theorem fp_2_2 : tt_FP 2 2 .int := ⟨_, _, _, t_Se, rfl, t_Se_ok, n_Se, rfl, by decide +kernel⟩
theorem fl_pg_57 : tt_FL "TideTable$Page" 57 2 0 := ⟨_, _, _, rfl, by decide, rfl, List.mem_of_getElem? (i := 154) (by decide +kernel), rfl, i_Se⟩
def y_pg_readPort : MethodName := ⟨"TideTable$Page", "readPort", "(ILTideTable$Port;)I"⟩
theorem mw_pg_readPort : tt_Mw y_pg_readPort prog_2_method_8_code 5 (some .int) 2 := ⟨List.mem_of_getElem? (i := 315) (by decide +kernel), List.mem_of_getElem? (i := 44) (by decide +kernel), by decide, by decide, by decide⟩
theorem mi_pg_readPort : Cond.instanceMethod y_pg_readPort ∈ tt_good := List.mem_of_getElem? (i := 314) (by decide +kernel)
theorem mz_pg_readPort : Cond.selects "TideTable$Page" y_pg_readPort y_pg_readPort ∈ tt_good := List.mem_of_getElem? (i := 2) (by decide +kernel)
theorem ml_pg_61 : Cond.methodLink "TideTable$Page" 61 y_pg_readPort ∈ tt_good := List.mem_of_getElem? (i := 313) (by decide +kernel)
def y_pg_numberAt : MethodName := ⟨"TideTable$Page", "numberAt", "(I)I"⟩
theorem mw_pg_numberAt : tt_Mw y_pg_numberAt prog_2_method_9_code 2 (some .int) 1 := ⟨List.mem_of_getElem? (i := 318) (by decide +kernel), List.mem_of_getElem? (i := 44) (by decide +kernel), by decide, by decide, by decide⟩
theorem mi_pg_numberAt : Cond.instanceMethod y_pg_numberAt ∈ tt_good := List.mem_of_getElem? (i := 317) (by decide +kernel)
theorem mz_pg_numberAt : Cond.selects "TideTable$Page" y_pg_numberAt y_pg_numberAt ∈ tt_good := List.mem_of_getElem? (i := 3) (by decide +kernel)
theorem ml_pg_65 : Cond.methodLink "TideTable$Page" 65 y_pg_numberAt ∈ tt_good := List.mem_of_getElem? (i := 316) (by decide +kernel)
def y_po_begin : MethodName := ⟨"TideTable$Port", "begin", "(IIII)V"⟩
theorem mw_po_begin : tt_Mw y_po_begin prog_3_method_2_code 5 none 4 := ⟨List.mem_of_getElem? (i := 322) (by decide +kernel), List.mem_of_getElem? (i := 46) (by decide +kernel), by decide, by decide, by decide⟩
theorem mi_po_begin : Cond.instanceMethod y_po_begin ∈ tt_good := List.mem_of_getElem? (i := 320) (by decide +kernel)
theorem mz_po_begin : Cond.selects "TideTable$Port" y_po_begin y_po_begin ∈ tt_good := List.mem_of_getElem? (i := 321) (by decide +kernel)
theorem ml_pg_68 : Cond.methodLink "TideTable$Page" 68 y_po_begin ∈ tt_good := List.mem_of_getElem? (i := 319) (by decide +kernel)
def y_po_putWave : MethodName := ⟨"TideTable$Port", "putWave", "(III)V"⟩
theorem mw_po_putWave : tt_Mw y_po_putWave prog_3_method_6_code 4 none 3 := ⟨List.mem_of_getElem? (i := 326) (by decide +kernel), List.mem_of_getElem? (i := 46) (by decide +kernel), by decide, by decide, by decide⟩
theorem mi_po_putWave : Cond.instanceMethod y_po_putWave ∈ tt_good := List.mem_of_getElem? (i := 324) (by decide +kernel)
theorem mz_po_putWave : Cond.selects "TideTable$Port" y_po_putWave y_po_putWave ∈ tt_good := List.mem_of_getElem? (i := 325) (by decide +kernel)
theorem ml_pg_74 : Cond.methodLink "TideTable$Page" 74 y_po_putWave ∈ tt_good := List.mem_of_getElem? (i := 323) (by decide +kernel)
def y_po_init : MethodName := ⟨"TideTable$Port", "<init>", "()V"⟩
theorem mw_po_init : tt_Mw y_po_init prog_3_method_1_code 2 none 0 := ⟨List.mem_of_getElem? (i := 95) (by decide +kernel), List.mem_of_getElem? (i := 46) (by decide +kernel), by decide, by decide, by decide⟩
theorem mi_po_init : Cond.instanceMethod y_po_init ∈ tt_good := List.mem_of_getElem? (i := 94) (by decide +kernel)
theorem fl_po_9 : tt_FL "TideTable$Port" 9 1 4 := ⟨_, _, _, rfl, by decide, rfl, List.mem_of_getElem? (i := 130) (by decide +kernel), rfl, i_Po⟩
theorem fp_1_4 : tt_FP 1 4 .int := ⟨_, _, _, t_Po, rfl, t_Po_ok, n_Po, rfl, by decide +kernel⟩
theorem fl_po_17 : tt_FL "TideTable$Port" 17 1 5 := ⟨_, _, _, rfl, by decide, rfl, List.mem_of_getElem? (i := 132) (by decide +kernel), rfl, i_Po⟩
def y_wa_init : MethodName := ⟨"TideTable$Wave", "<init>", "()V"⟩
theorem mw_wa_init : tt_Mw y_wa_init prog_5_method_1_code 1 none 0 := ⟨List.mem_of_getElem? (i := 100) (by decide +kernel), List.mem_of_getElem? (i := 47) (by decide +kernel), by decide, by decide, by decide⟩
theorem mi_wa_init : Cond.instanceMethod y_wa_init ∈ tt_good := List.mem_of_getElem? (i := 99) (by decide +kernel)
theorem ml_po_21 : Cond.methodLinkNest "TideTable$Port" 21 y_wa_init "TideTable" ∈ tt_nest := by decide +kernel
theorem fl_po_22 : tt_FL "TideTable$Port" 22 1 0 := ⟨_, _, _, rfl, by decide, rfl, List.mem_of_getElem? (i := 118) (by decide +kernel), rfl, i_Po⟩
theorem fp_1_0 : tt_FP 1 0 .int := ⟨_, _, _, t_Po, rfl, t_Po_ok, n_Po, rfl, by decide +kernel⟩
theorem fl_po_25 : tt_FL "TideTable$Port" 25 1 1 := ⟨_, _, _, rfl, by decide, rfl, List.mem_of_getElem? (i := 121) (by decide +kernel), rfl, i_Po⟩
theorem fp_1_1 : tt_FP 1 1 .int := ⟨_, _, _, t_Po, rfl, t_Po_ok, n_Po, rfl, by decide +kernel⟩
theorem fl_po_28 : tt_FL "TideTable$Port" 28 1 2 := ⟨_, _, _, rfl, by decide, rfl, List.mem_of_getElem? (i := 124) (by decide +kernel), rfl, i_Po⟩
theorem fp_1_2 : tt_FP 1 2 .int := ⟨_, _, _, t_Po, rfl, t_Po_ok, n_Po, rfl, by decide +kernel⟩
theorem fl_po_31 : tt_FL "TideTable$Port" 31 1 3 := ⟨_, _, _, rfl, by decide, rfl, List.mem_of_getElem? (i := 127) (by decide +kernel), rfl, i_Po⟩
theorem fp_1_3 : tt_FP 1 3 .int := ⟨_, _, _, t_Po, rfl, t_Po_ok, n_Po, rfl, by decide +kernel⟩
theorem fl_po_34 : tt_FL "TideTable$Port" 34 1 6 := ⟨_, _, _, rfl, by decide, rfl, List.mem_of_getElem? (i := 134) (by decide +kernel), rfl, i_Po⟩
theorem fp_1_6 : tt_FP 1 6 .int := ⟨_, _, _, t_Po, rfl, t_Po_ok, n_Po, rfl, by decide +kernel⟩
def y_po_become : MethodName := ⟨"TideTable$Port", "become", "(LTideTable$Port;)V"⟩
theorem mw_po_become : tt_Mw y_po_become prog_3_method_3_code 4 none 1 := ⟨List.mem_of_getElem? (i := 522) (by decide +kernel), List.mem_of_getElem? (i := 46) (by decide +kernel), by decide, by decide, by decide⟩
theorem mi_po_become : Cond.instanceMethod y_po_become ∈ tt_good := List.mem_of_getElem? (i := 520) (by decide +kernel)
theorem mz_po_become : Cond.selects "TideTable$Port" y_po_become y_po_become ∈ tt_good := List.mem_of_getElem? (i := 521) (by decide +kernel)
theorem ml_po_37 : Cond.methodLink "TideTable$Port" 37 y_po_begin ∈ tt_good := List.mem_of_getElem? (i := 523) (by decide +kernel)
theorem fl_po_41 : tt_FL "TideTable$Port" 41 3 0 := ⟨_, _, _, rfl, by decide, rfl, List.mem_of_getElem? (i := 103) (by decide +kernel), rfl, i_Wa⟩
theorem fl_po_44 : tt_FL "TideTable$Port" 44 3 1 := ⟨_, _, _, rfl, by decide, rfl, List.mem_of_getElem? (i := 106) (by decide +kernel), rfl, i_Wa⟩
theorem fl_po_47 : tt_FL "TideTable$Port" 47 3 2 := ⟨_, _, _, rfl, by decide, rfl, List.mem_of_getElem? (i := 109) (by decide +kernel), rfl, i_Wa⟩
theorem ml_po_50 : Cond.methodLink "TideTable$Port" 50 y_po_putWave ∈ tt_good := List.mem_of_getElem? (i := 524) (by decide +kernel)
def y_po_has : MethodName := ⟨"TideTable$Port", "has", "(I)Z"⟩
theorem mw_po_has : tt_Mw y_po_has prog_3_method_4_code 2 (some .boolean) 1 := ⟨List.mem_of_getElem? (i := 360) (by decide +kernel), List.mem_of_getElem? (i := 46) (by decide +kernel), by decide, by decide, by decide⟩
theorem mi_po_has : Cond.instanceMethod y_po_has ∈ tt_good := List.mem_of_getElem? (i := 358) (by decide +kernel)
theorem mz_po_has : Cond.selects "TideTable$Port" y_po_has y_po_has ∈ tt_good := List.mem_of_getElem? (i := 359) (by decide +kernel)
def y_po_isA : MethodName := ⟨"TideTable$Port", "isA", "(I)Z"⟩
theorem mw_po_isA : tt_Mw y_po_isA prog_3_method_5_code 2 (some .boolean) 1 := ⟨List.mem_of_getElem? (i := 368) (by decide +kernel), List.mem_of_getElem? (i := 46) (by decide +kernel), by decide, by decide, by decide⟩
theorem mi_po_isA : Cond.instanceMethod y_po_isA ∈ tt_good := List.mem_of_getElem? (i := 366) (by decide +kernel)
theorem mz_po_isA : Cond.selects "TideTable$Port" y_po_isA y_po_isA ∈ tt_good := List.mem_of_getElem? (i := 367) (by decide +kernel)
def y_wa_put : MethodName := ⟨"TideTable$Wave", "put", "(III)V"⟩
theorem mw_wa_put : tt_Mw y_wa_put prog_5_method_2_code 4 none 3 := ⟨List.mem_of_getElem? (i := 330) (by decide +kernel), List.mem_of_getElem? (i := 47) (by decide +kernel), by decide, by decide, by decide⟩
theorem mi_wa_put : Cond.instanceMethod y_wa_put ∈ tt_good := List.mem_of_getElem? (i := 328) (by decide +kernel)
theorem mz_wa_put : Cond.selects "TideTable$Wave" y_wa_put y_wa_put ∈ tt_good := List.mem_of_getElem? (i := 329) (by decide +kernel)
theorem ml_po_54 : Cond.methodLink "TideTable$Port" 54 y_wa_put ∈ tt_good := List.mem_of_getElem? (i := 327) (by decide +kernel)
def y_po_dropWave : MethodName := ⟨"TideTable$Port", "dropWave", "(I)V"⟩
theorem mw_po_dropWave : tt_Mw y_po_dropWave prog_3_method_7_code 4 none 1 := ⟨List.mem_of_getElem? (i := 489) (by decide +kernel), List.mem_of_getElem? (i := 46) (by decide +kernel), by decide, by decide, by decide⟩
theorem mi_po_dropWave : Cond.instanceMethod y_po_dropWave ∈ tt_good := List.mem_of_getElem? (i := 487) (by decide +kernel)
theorem mz_po_dropWave : Cond.selects "TideTable$Port" y_po_dropWave y_po_dropWave ∈ tt_good := List.mem_of_getElem? (i := 488) (by decide +kernel)
def y_po_sumAt : MethodName := ⟨"TideTable$Port", "sumAt", "(I)I"⟩
theorem mw_po_sumAt : tt_Mw y_po_sumAt prog_3_method_8_code 4 (some .int) 1 := ⟨List.mem_of_getElem? (i := 384) (by decide +kernel), List.mem_of_getElem? (i := 46) (by decide +kernel), by decide, by decide, by decide⟩
theorem mi_po_sumAt : Cond.instanceMethod y_po_sumAt ∈ tt_good := List.mem_of_getElem? (i := 382) (by decide +kernel)
theorem mz_po_sumAt : Cond.selects "TideTable$Port" y_po_sumAt y_po_sumAt ∈ tt_good := List.mem_of_getElem? (i := 383) (by decide +kernel)
def y_wa_givesAt : MethodName := ⟨"TideTable$Wave", "givesAt", "(I)I"⟩
theorem mw_wa_givesAt : tt_Mw y_wa_givesAt prog_5_method_3_code 6 (some .int) 1 := ⟨List.mem_of_getElem? (i := 388) (by decide +kernel), List.mem_of_getElem? (i := 47) (by decide +kernel), by decide, by decide, by decide⟩
theorem mi_wa_givesAt : Cond.instanceMethod y_wa_givesAt ∈ tt_good := List.mem_of_getElem? (i := 386) (by decide +kernel)
theorem mz_wa_givesAt : Cond.selects "TideTable$Wave" y_wa_givesAt y_wa_givesAt ∈ tt_good := List.mem_of_getElem? (i := 387) (by decide +kernel)
theorem ml_po_57 : Cond.methodLink "TideTable$Port" 57 y_wa_givesAt ∈ tt_good := List.mem_of_getElem? (i := 385) (by decide +kernel)
def y_po_ownHeightAt : MethodName := ⟨"TideTable$Port", "ownHeightAt", "(I)I"⟩
theorem mw_po_ownHeightAt : tt_Mw y_po_ownHeightAt prog_3_method_9_code 5 (some .int) 1 := ⟨List.mem_of_getElem? (i := 404) (by decide +kernel), List.mem_of_getElem? (i := 46) (by decide +kernel), by decide, by decide, by decide⟩
theorem mi_po_ownHeightAt : Cond.instanceMethod y_po_ownHeightAt ∈ tt_good := List.mem_of_getElem? (i := 402) (by decide +kernel)
theorem mz_po_ownHeightAt : Cond.selects "TideTable$Port" y_po_ownHeightAt y_po_ownHeightAt ∈ tt_good := List.mem_of_getElem? (i := 403) (by decide +kernel)
theorem ml_po_61 : Cond.methodLink "TideTable$Port" 61 y_po_sumAt ∈ tt_good := List.mem_of_getElem? (i := 405) (by decide +kernel)
def y_po_isOddDay : MethodName := ⟨"TideTable$Port", "isOddDay", "(I)Z"⟩
theorem mw_po_isOddDay : tt_Mw y_po_isOddDay prog_3_method_10_code 1 (some .boolean) 1 := ⟨List.mem_of_getElem? (i := 408) (by decide +kernel), List.mem_of_getElem? (i := 46) (by decide +kernel), by decide, by decide, by decide⟩
theorem ms_po_isOddDay : Cond.static y_po_isOddDay ∈ tt_good := List.mem_of_getElem? (i := 407) (by decide +kernel)
theorem ml_po_64 : Cond.methodLink "TideTable$Port" 64 y_po_isOddDay ∈ tt_good := List.mem_of_getElem? (i := 406) (by decide +kernel)
theorem ml_po_68 : Cond.methodLink "TideTable$Port" 68 y_po_isA ∈ tt_good := List.mem_of_getElem? (i := 410) (by decide +kernel)
def y_ma_max : MethodName := ⟨"java/lang/Math", "max", "(II)I"⟩
theorem mw_ma_max : tt_Mw y_ma_max prog_10_method_65_code 2 (some .int) 2 := ⟨List.mem_of_getElem? (i := 247) (by decide +kernel), List.mem_of_getElem? (i := 51) (by decide +kernel), by decide, by decide, by decide⟩
theorem ms_ma_max : Cond.static y_ma_max ∈ tt_good := List.mem_of_getElem? (i := 246) (by decide +kernel)
theorem ml_po_71 : Cond.methodLink "TideTable$Port" 71 y_ma_max ∈ tt_good := List.mem_of_getElem? (i := 411) (by decide +kernel)
def y_ma_floorDiv : MethodName := ⟨"java/lang/Math", "floorDiv", "(II)I"⟩
theorem mw_ma_floorDiv : tt_Mw y_ma_floorDiv prog_10_method_47_code 3 (some .int) 2 := ⟨List.mem_of_getElem? (i := 391) (by decide +kernel), List.mem_of_getElem? (i := 51) (by decide +kernel), by decide, by decide, by decide⟩
theorem ms_ma_floorDiv : Cond.static y_ma_floorDiv ∈ tt_good := List.mem_of_getElem? (i := 390) (by decide +kernel)
theorem ml_po_77 : Cond.methodLink "TideTable$Port" 77 y_ma_floorDiv ∈ tt_good := List.mem_of_getElem? (i := 409) (by decide +kernel)
def y_se_init : MethodName := ⟨"TideTable$Sea", "<init>", "()V"⟩
theorem mw_se_init : tt_Mw y_se_init prog_4_method_1_code 2 none 0 := ⟨List.mem_of_getElem? (i := 89) (by decide +kernel), List.mem_of_getElem? (i := 45) (by decide +kernel), by decide, by decide, by decide⟩
theorem mi_se_init : Cond.instanceMethod y_se_init ∈ tt_good := List.mem_of_getElem? (i := 88) (by decide +kernel)
theorem fl_se_11 : tt_FL "TideTable$Sea" 11 2 0 := ⟨_, _, _, rfl, by decide, rfl, List.mem_of_getElem? (i := 152) (by decide +kernel), rfl, i_Se⟩
theorem ml_se_17 : Cond.methodLink "TideTable$Sea" 17 y_po_init ∈ tt_good := List.mem_of_getElem? (i := 93) (by decide +kernel)
def y_se_become : MethodName := ⟨"TideTable$Sea", "become", "(LTideTable$Sea;)V"⟩
theorem mw_se_become : tt_Mw y_se_become prog_4_method_2_code 3 none 1 := ⟨List.mem_of_getElem? (i := 518) (by decide +kernel), List.mem_of_getElem? (i := 45) (by decide +kernel), by decide, by decide, by decide⟩
theorem mi_se_become : Cond.instanceMethod y_se_become ∈ tt_good := List.mem_of_getElem? (i := 516) (by decide +kernel)
theorem mz_se_become : Cond.selects "TideTable$Sea" y_se_become y_se_become ∈ tt_good := List.mem_of_getElem? (i := 517) (by decide +kernel)
theorem fl_se_18 : tt_FL "TideTable$Sea" 18 2 1 := ⟨_, _, _, rfl, by decide, rfl, List.mem_of_getElem? (i := 155) (by decide +kernel), rfl, i_Se⟩
theorem fl_se_22 : tt_FL "TideTable$Sea" 22 2 2 := ⟨_, _, _, rfl, by decide, rfl, List.mem_of_getElem? (i := 158) (by decide +kernel), rfl, i_Se⟩
theorem ml_se_25 : Cond.methodLink "TideTable$Sea" 25 y_po_become ∈ tt_good := List.mem_of_getElem? (i := 519) (by decide +kernel)
def y_se_knows : MethodName := ⟨"TideTable$Sea", "knows", "(I)Z"⟩
theorem mw_se_knows : tt_Mw y_se_knows prog_4_method_3_code 2 (some .boolean) 1 := ⟨List.mem_of_getElem? (i := 338) (by decide +kernel), List.mem_of_getElem? (i := 45) (by decide +kernel), by decide, by decide, by decide⟩
theorem mi_se_knows : Cond.instanceMethod y_se_knows ∈ tt_good := List.mem_of_getElem? (i := 336) (by decide +kernel)
theorem mz_se_knows : Cond.selects "TideTable$Sea" y_se_knows y_se_knows ∈ tt_good := List.mem_of_getElem? (i := 337) (by decide +kernel)
def y_se_heightAt : MethodName := ⟨"TideTable$Sea", "heightAt", "(II)I"⟩
theorem mw_se_heightAt : tt_Mw y_se_heightAt prog_4_method_4_code 5 (some .int) 2 := ⟨List.mem_of_getElem? (i := 399) (by decide +kernel), List.mem_of_getElem? (i := 45) (by decide +kernel), by decide, by decide, by decide⟩
theorem mi_se_heightAt : Cond.instanceMethod y_se_heightAt ∈ tt_good := List.mem_of_getElem? (i := 397) (by decide +kernel)
theorem mz_se_heightAt : Cond.selects "TideTable$Sea" y_se_heightAt y_se_heightAt ∈ tt_good := List.mem_of_getElem? (i := 398) (by decide +kernel)
theorem ml_se_29 : Cond.methodLink "TideTable$Sea" 29 y_se_knows ∈ tt_good := List.mem_of_getElem? (i := 400) (by decide +kernel)
theorem fl_se_33 : tt_FL "TideTable$Sea" 33 1 0 := ⟨_, _, _, rfl, by decide, rfl, List.mem_of_getElem? (i := 119) (by decide +kernel), rfl, i_Po⟩
theorem ml_se_36 : Cond.methodLink "TideTable$Sea" 36 y_po_ownHeightAt ∈ tt_good := List.mem_of_getElem? (i := 401) (by decide +kernel)
theorem fl_se_40 : tt_FL "TideTable$Sea" 40 1 2 := ⟨_, _, _, rfl, by decide, rfl, List.mem_of_getElem? (i := 125) (by decide +kernel), rfl, i_Po⟩
theorem fl_se_43 : tt_FL "TideTable$Sea" 43 1 3 := ⟨_, _, _, rfl, by decide, rfl, List.mem_of_getElem? (i := 128) (by decide +kernel), rfl, i_Po⟩
theorem ml_se_46 : Cond.methodLink "TideTable$Sea" 46 y_ma_floorDiv ∈ tt_good := List.mem_of_getElem? (i := 412) (by decide +kernel)
theorem fl_se_52 : tt_FL "TideTable$Sea" 52 1 1 := ⟨_, _, _, rfl, by decide, rfl, List.mem_of_getElem? (i := 122) (by decide +kernel), rfl, i_Po⟩
def y_se_fill : MethodName := ⟨"TideTable$Sea", "fill", "([IIII)V"⟩
theorem mw_se_fill : tt_Mw y_se_fill prog_4_method_5_code 6 none 4 := ⟨List.mem_of_getElem? (i := 420) (by decide +kernel), List.mem_of_getElem? (i := 45) (by decide +kernel), by decide, by decide, by decide⟩
theorem mi_se_fill : Cond.instanceMethod y_se_fill ∈ tt_good := List.mem_of_getElem? (i := 418) (by decide +kernel)
theorem mz_se_fill : Cond.selects "TideTable$Sea" y_se_fill y_se_fill ∈ tt_good := List.mem_of_getElem? (i := 419) (by decide +kernel)
theorem ml_se_55 : Cond.methodLink "TideTable$Sea" 55 y_se_heightAt ∈ tt_good := List.mem_of_getElem? (i := 421) (by decide +kernel)
def y_se_wavesOfAll : MethodName := ⟨"TideTable$Sea", "wavesOfAll", "()I"⟩
theorem mw_se_wavesOfAll : tt_Mw y_se_wavesOfAll prog_4_method_6_code 3 (some .int) 0 := ⟨List.mem_of_getElem? (i := 536) (by decide +kernel), List.mem_of_getElem? (i := 45) (by decide +kernel), by decide, by decide, by decide⟩
theorem mi_se_wavesOfAll : Cond.instanceMethod y_se_wavesOfAll ∈ tt_good := List.mem_of_getElem? (i := 534) (by decide +kernel)
theorem mz_se_wavesOfAll : Cond.selects "TideTable$Sea" y_se_wavesOfAll y_se_wavesOfAll ∈ tt_good := List.mem_of_getElem? (i := 535) (by decide +kernel)
theorem fl_se_58 : tt_FL "TideTable$Sea" 58 1 6 := ⟨_, _, _, rfl, by decide, rfl, List.mem_of_getElem? (i := 135) (by decide +kernel), rfl, i_Po⟩
def y_se_followers : MethodName := ⟨"TideTable$Sea", "followers", "()I"⟩
theorem mw_se_followers : tt_Mw y_se_followers prog_4_method_7_code 3 (some .int) 0 := ⟨List.mem_of_getElem? (i := 540) (by decide +kernel), List.mem_of_getElem? (i := 45) (by decide +kernel), by decide, by decide, by decide⟩
theorem mi_se_followers : Cond.instanceMethod y_se_followers ∈ tt_good := List.mem_of_getElem? (i := 538) (by decide +kernel)
theorem mz_se_followers : Cond.selects "TideTable$Sea" y_se_followers y_se_followers ∈ tt_good := List.mem_of_getElem? (i := 539) (by decide +kernel)
def y_se_greatestOnDay0 : MethodName := ⟨"TideTable$Sea", "greatestOnDay0", "()I"⟩
theorem mw_se_greatestOnDay0 : tt_Mw y_se_greatestOnDay0 prog_4_method_8_code 4 (some .int) 0 := ⟨List.mem_of_getElem? (i := 544) (by decide +kernel), List.mem_of_getElem? (i := 45) (by decide +kernel), by decide, by decide, by decide⟩
theorem mi_se_greatestOnDay0 : Cond.instanceMethod y_se_greatestOnDay0 ∈ tt_good := List.mem_of_getElem? (i := 542) (by decide +kernel)
theorem mz_se_greatestOnDay0 : Cond.selects "TideTable$Sea" y_se_greatestOnDay0 y_se_greatestOnDay0 ∈ tt_good := List.mem_of_getElem? (i := 543) (by decide +kernel)
theorem ml_se_59 : Cond.methodLink "TideTable$Sea" 59 y_ma_max ∈ tt_good := List.mem_of_getElem? (i := 545) (by decide +kernel)
theorem fl_wa_7 : tt_FL "TideTable$Wave" 7 3 0 := ⟨_, _, _, rfl, by decide, rfl, List.mem_of_getElem? (i := 102) (by decide +kernel), rfl, i_Wa⟩
theorem fp_3_0 : tt_FP 3 0 .int := ⟨_, _, _, t_Wa, rfl, t_Wa_ok, n_Wa, rfl, by decide +kernel⟩
theorem fl_wa_13 : tt_FL "TideTable$Wave" 13 3 1 := ⟨_, _, _, rfl, by decide, rfl, List.mem_of_getElem? (i := 105) (by decide +kernel), rfl, i_Wa⟩
theorem fp_3_1 : tt_FP 3 1 .int := ⟨_, _, _, t_Wa, rfl, t_Wa_ok, n_Wa, rfl, by decide +kernel⟩
theorem fl_wa_16 : tt_FL "TideTable$Wave" 16 3 2 := ⟨_, _, _, rfl, by decide, rfl, List.mem_of_getElem? (i := 108) (by decide +kernel), rfl, i_Wa⟩
theorem fp_3_2 : tt_FP 3 2 .int := ⟨_, _, _, t_Wa, rfl, t_Wa_ok, n_Wa, rfl, by decide +kernel⟩
def y_tb_roundAt : MethodName := ⟨"TideTable", "roundAt", "(I)I"⟩
theorem mw_tb_roundAt : tt_Mw y_tb_roundAt prog_1_method_35_code 2 (some .int) 1 := ⟨List.mem_of_getElem? (i := 375) (by decide +kernel), List.mem_of_getElem? (i := 43) (by decide +kernel), by decide, by decide, by decide⟩
theorem ms_tb_roundAt : Cond.static y_tb_roundAt ∈ tt_good := List.mem_of_getElem? (i := 374) (by decide +kernel)
theorem ml_wa_19 : Cond.methodLinkNest "TideTable$Wave" 19 y_tb_roundAt "TideTable" ∈ tt_nest := by decide +kernel
theorem ml_wa_25 : Cond.methodLink "TideTable$Wave" 25 y_ma_floorDiv ∈ tt_good := List.mem_of_getElem? (i := 389) (by decide +kernel)
def y_tb_init : MethodName := ⟨"TideTable", "<init>", "()V"⟩
theorem mw_tb_init : tt_Mw y_tb_init prog_1_method_1_code 1 none 0 := ⟨List.mem_of_getElem? (i := 60) (by decide +kernel), List.mem_of_getElem? (i := 43) (by decide +kernel), by decide, by decide, by decide⟩
theorem mi_tb_init : Cond.instanceMethod y_tb_init ∈ tt_good := List.mem_of_getElem? (i := 59) (by decide +kernel)
theorem ml_tb_11 : Cond.methodLinkNest "TideTable" 11 y_pg_init "TideTable" ∈ tt_nest := by decide +kernel
theorem fl_tb_12 : tt_FL "TideTable" 12 4 0 := ⟨_, _, _, rfl, by decide, rfl, List.mem_of_getElem? (i := 168) (by decide +kernel), rfl, i_Tt⟩
theorem ml_tb_18 : Cond.methodLink "TideTable" 18 y_se_init ∈ tt_good := List.mem_of_getElem? (i := 87) (by decide +kernel)
theorem fl_tb_19 : tt_FL "TideTable" 19 4 1 := ⟨_, _, _, rfl, by decide, rfl, List.mem_of_getElem? (i := 169) (by decide +kernel), rfl, i_Tt⟩
theorem fl_tb_23 : tt_FL "TideTable" 23 4 2 := ⟨_, _, _, rfl, by decide, rfl, List.mem_of_getElem? (i := 170) (by decide +kernel), rfl, i_Tt⟩
theorem fl_tb_26 : tt_FL "TideTable" 26 4 5 := ⟨_, _, _, rfl, by decide, rfl, List.mem_of_getElem? (i := 173) (by decide +kernel), rfl, i_Tt⟩
theorem fl_tb_30 : tt_FL "TideTable" 30 4 6 := ⟨_, _, _, rfl, by decide, rfl, List.mem_of_getElem? (i := 174) (by decide +kernel), rfl, i_Tt⟩
def y_tb_letter : MethodName := ⟨"TideTable", "letter", "(I)I"⟩
theorem mw_tb_letter : tt_Mw y_tb_letter prog_1_method_2_code 2 (some .int) 1 := ⟨List.mem_of_getElem? (i := 193) (by decide +kernel), List.mem_of_getElem? (i := 43) (by decide +kernel), by decide, by decide, by decide⟩
theorem mi_tb_letter : Cond.instanceMethod y_tb_letter ∈ tt_good := List.mem_of_getElem? (i := 191) (by decide +kernel)
theorem mz_tb_letter : Cond.selects "TideTable" y_tb_letter y_tb_letter ∈ tt_good := List.mem_of_getElem? (i := 192) (by decide +kernel)
theorem ml_tb_33 : Cond.methodLink "TideTable" 33 y_tb_within ∈ tt_good := List.mem_of_getElem? (i := 194) (by decide +kernel)
theorem fl_tb_37 : tt_FL "TideTable" 37 0 1 := ⟨_, _, _, rfl, by decide, rfl, List.mem_of_getElem? (i := 72) (by decide +kernel), rfl, i_Pg⟩
theorem fl_tb_41 : tt_FL "TideTable" 41 0 0 := ⟨_, _, _, rfl, by decide, rfl, List.mem_of_getElem? (i := 70) (by decide +kernel), rfl, i_Pg⟩
theorem fp_0_1 : tt_FP 0 1 .int := ⟨_, _, _, t_Pg, rfl, t_Pg_ok, n_Pg, rfl, by decide +kernel⟩
def y_tb_blank : MethodName := ⟨"TideTable", "blank", "()I"⟩
theorem mw_tb_blank : tt_Mw y_tb_blank prog_1_method_3_code 2 (some .int) 0 := ⟨List.mem_of_getElem? (i := 200) (by decide +kernel), List.mem_of_getElem? (i := 43) (by decide +kernel), by decide, by decide, by decide⟩
theorem mi_tb_blank : Cond.instanceMethod y_tb_blank ∈ tt_good := List.mem_of_getElem? (i := 198) (by decide +kernel)
theorem mz_tb_blank : Cond.selects "TideTable" y_tb_blank y_tb_blank ∈ tt_good := List.mem_of_getElem? (i := 199) (by decide +kernel)
def y_tb_fault : MethodName := ⟨"TideTable", "fault", "()I"⟩
theorem mw_tb_fault : tt_Mw y_tb_fault prog_1_method_4_code 1 (some .int) 0 := ⟨List.mem_of_getElem? (i := 204) (by decide +kernel), List.mem_of_getElem? (i := 43) (by decide +kernel), by decide, by decide, by decide⟩
theorem mi_tb_fault : Cond.instanceMethod y_tb_fault ∈ tt_good := List.mem_of_getElem? (i := 202) (by decide +kernel)
theorem mz_tb_fault : Cond.selects "TideTable" y_tb_fault y_tb_fault ∈ tt_good := List.mem_of_getElem? (i := 203) (by decide +kernel)
theorem ml_tb_44 : Cond.methodLink "TideTable" 44 y_pg_firstWrong ∈ tt_good := List.mem_of_getElem? (i := 205) (by decide +kernel)
def y_tb_ports : MethodName := ⟨"TideTable", "ports", "()I"⟩
theorem mw_tb_ports : tt_Mw y_tb_ports prog_1_method_5_code 1 (some .int) 0 := ⟨List.mem_of_getElem? (i := 303) (by decide +kernel), List.mem_of_getElem? (i := 43) (by decide +kernel), by decide, by decide, by decide⟩
theorem mi_tb_ports : Cond.instanceMethod y_tb_ports ∈ tt_good := List.mem_of_getElem? (i := 301) (by decide +kernel)
theorem mz_tb_ports : Cond.selects "TideTable" y_tb_ports y_tb_ports ∈ tt_good := List.mem_of_getElem? (i := 302) (by decide +kernel)
theorem ml_tb_48 : Cond.methodLink "TideTable" 48 y_pg_isWhole ∈ tt_good := List.mem_of_getElem? (i := 304) (by decide +kernel)
theorem ml_tb_52 : Cond.methodLink "TideTable" 52 y_pg_readInto ∈ tt_good := List.mem_of_getElem? (i := 309) (by decide +kernel)
theorem fl_tb_56 : tt_FL "TideTable" 56 4 3 := ⟨_, _, _, rfl, by decide, rfl, List.mem_of_getElem? (i := 171) (by decide +kernel), rfl, i_Tt⟩
theorem fp_4_3 : tt_FP 4 3 .boolean := ⟨_, _, _, t_Tt, rfl, t_Tt_ok, n_Tt, rfl, by decide +kernel⟩
theorem fl_tb_60 : tt_FL "TideTable" 60 4 4 := ⟨_, _, _, rfl, by decide, rfl, List.mem_of_getElem? (i := 172) (by decide +kernel), rfl, i_Tt⟩
theorem fp_4_4 : tt_FP 4 4 .int := ⟨_, _, _, t_Tt, rfl, t_Tt_ok, n_Tt, rfl, by decide +kernel⟩
theorem fl_tb_63 : tt_FL "TideTable" 63 2 1 := ⟨_, _, _, rfl, by decide, rfl, List.mem_of_getElem? (i := 156) (by decide +kernel), rfl, i_Se⟩
def y_tb_port : MethodName := ⟨"TideTable", "port", "(II)I"⟩
theorem mw_tb_port : tt_Mw y_tb_port prog_1_method_6_code 4 (some .int) 2 := ⟨List.mem_of_getElem? (i := 334) (by decide +kernel), List.mem_of_getElem? (i := 43) (by decide +kernel), by decide, by decide, by decide⟩
theorem mi_tb_port : Cond.instanceMethod y_tb_port ∈ tt_good := List.mem_of_getElem? (i := 332) (by decide +kernel)
theorem mz_tb_port : Cond.selects "TideTable" y_tb_port y_tb_port ∈ tt_good := List.mem_of_getElem? (i := 333) (by decide +kernel)
theorem ml_tb_64 : Cond.methodLink "TideTable" 64 y_se_knows ∈ tt_good := List.mem_of_getElem? (i := 335) (by decide +kernel)
theorem fl_tb_68 : tt_FL "TideTable" 68 2 0 := ⟨_, _, _, rfl, by decide, rfl, List.mem_of_getElem? (i := 153) (by decide +kernel), rfl, i_Se⟩
theorem fl_tb_72 : tt_FL "TideTable" 72 1 0 := ⟨_, _, _, rfl, by decide, rfl, List.mem_of_getElem? (i := 120) (by decide +kernel), rfl, i_Po⟩
theorem fl_tb_77 : tt_FL "TideTable" 77 1 1 := ⟨_, _, _, rfl, by decide, rfl, List.mem_of_getElem? (i := 123) (by decide +kernel), rfl, i_Po⟩
theorem fl_tb_80 : tt_FL "TideTable" 80 1 2 := ⟨_, _, _, rfl, by decide, rfl, List.mem_of_getElem? (i := 126) (by decide +kernel), rfl, i_Po⟩
theorem fl_tb_83 : tt_FL "TideTable" 83 1 3 := ⟨_, _, _, rfl, by decide, rfl, List.mem_of_getElem? (i := 129) (by decide +kernel), rfl, i_Po⟩
theorem fl_tb_86 : tt_FL "TideTable" 86 1 6 := ⟨_, _, _, rfl, by decide, rfl, List.mem_of_getElem? (i := 136) (by decide +kernel), rfl, i_Po⟩
theorem fl_tb_87 : tt_FL "TideTable" 87 1 4 := ⟨_, _, _, rfl, by decide, rfl, List.mem_of_getElem? (i := 131) (by decide +kernel), rfl, i_Po⟩
def y_tb_nextToAsk : MethodName := ⟨"TideTable", "nextToAsk", "(I)I"⟩
theorem mw_tb_nextToAsk : tt_Mw y_tb_nextToAsk prog_1_method_36_code 3 (some .int) 1 := ⟨List.mem_of_getElem? (i := 341) (by decide +kernel), List.mem_of_getElem? (i := 43) (by decide +kernel), by decide, by decide, by decide⟩
theorem ms_tb_nextToAsk : Cond.static y_tb_nextToAsk ∈ tt_good := List.mem_of_getElem? (i := 340) (by decide +kernel)
theorem ml_tb_90 : Cond.methodLink "TideTable" 90 y_tb_nextToAsk ∈ tt_good := List.mem_of_getElem? (i := 339) (by decide +kernel)
def y_tb_wave : MethodName := ⟨"TideTable", "wave", "(III)I"⟩
theorem mw_tb_wave : tt_Mw y_tb_wave prog_1_method_7_code 5 (some .int) 3 := ⟨List.mem_of_getElem? (i := 356) (by decide +kernel), List.mem_of_getElem? (i := 43) (by decide +kernel), by decide, by decide, by decide⟩
theorem mi_tb_wave : Cond.instanceMethod y_tb_wave ∈ tt_good := List.mem_of_getElem? (i := 354) (by decide +kernel)
theorem mz_tb_wave : Cond.selects "TideTable" y_tb_wave y_tb_wave ∈ tt_good := List.mem_of_getElem? (i := 355) (by decide +kernel)
theorem ml_tb_94 : Cond.methodLink "TideTable" 94 y_po_has ∈ tt_good := List.mem_of_getElem? (i := 357) (by decide +kernel)
theorem fl_tb_97 : tt_FL "TideTable" 97 1 5 := ⟨_, _, _, rfl, by decide, rfl, List.mem_of_getElem? (i := 133) (by decide +kernel), rfl, i_Po⟩
theorem fl_tb_101 : tt_FL "TideTable" 101 3 0 := ⟨_, _, _, rfl, by decide, rfl, List.mem_of_getElem? (i := 104) (by decide +kernel), rfl, i_Wa⟩
theorem fl_tb_106 : tt_FL "TideTable" 106 3 1 := ⟨_, _, _, rfl, by decide, rfl, List.mem_of_getElem? (i := 107) (by decide +kernel), rfl, i_Wa⟩
theorem fl_tb_109 : tt_FL "TideTable" 109 3 2 := ⟨_, _, _, rfl, by decide, rfl, List.mem_of_getElem? (i := 110) (by decide +kernel), rfl, i_Wa⟩
def y_tb_as : MethodName := ⟨"TideTable", "as", "(II)I"⟩
theorem mw_tb_as : tt_Mw y_tb_as prog_1_method_8_code 3 (some .int) 2 := ⟨List.mem_of_getElem? (i := 364) (by decide +kernel), List.mem_of_getElem? (i := 43) (by decide +kernel), by decide, by decide, by decide⟩
theorem mi_tb_as : Cond.instanceMethod y_tb_as ∈ tt_good := List.mem_of_getElem? (i := 362) (by decide +kernel)
theorem mz_tb_as : Cond.selects "TideTable" y_tb_as y_tb_as ∈ tt_good := List.mem_of_getElem? (i := 363) (by decide +kernel)
theorem ml_tb_112 : Cond.methodLink "TideTable" 112 y_po_isA ∈ tt_good := List.mem_of_getElem? (i := 365) (by decide +kernel)
def y_tb_round : MethodName := ⟨"TideTable", "round", "(I)I"⟩
theorem mw_tb_round : tt_Mw y_tb_round prog_1_method_9_code 2 (some .int) 1 := ⟨List.mem_of_getElem? (i := 372) (by decide +kernel), List.mem_of_getElem? (i := 43) (by decide +kernel), by decide, by decide, by decide⟩
theorem mi_tb_round : Cond.instanceMethod y_tb_round ∈ tt_good := List.mem_of_getElem? (i := 370) (by decide +kernel)
theorem mz_tb_round : Cond.selects "TideTable" y_tb_round y_tb_round ∈ tt_good := List.mem_of_getElem? (i := 371) (by decide +kernel)
theorem ml_tb_115 : Cond.methodLink "TideTable" 115 y_tb_roundAt ∈ tt_good := List.mem_of_getElem? (i := 373) (by decide +kernel)
def y_tb_sum : MethodName := ⟨"TideTable", "sum", "(II)I"⟩
theorem mw_tb_sum : tt_Mw y_tb_sum prog_1_method_10_code 3 (some .int) 2 := ⟨List.mem_of_getElem? (i := 380) (by decide +kernel), List.mem_of_getElem? (i := 43) (by decide +kernel), by decide, by decide, by decide⟩
theorem mi_tb_sum : Cond.instanceMethod y_tb_sum ∈ tt_good := List.mem_of_getElem? (i := 378) (by decide +kernel)
theorem mz_tb_sum : Cond.selects "TideTable" y_tb_sum y_tb_sum ∈ tt_good := List.mem_of_getElem? (i := 379) (by decide +kernel)
theorem ml_tb_118 : Cond.methodLink "TideTable" 118 y_po_sumAt ∈ tt_good := List.mem_of_getElem? (i := 381) (by decide +kernel)
def y_tb_height : MethodName := ⟨"TideTable", "height", "(II)I"⟩
theorem mw_tb_height : tt_Mw y_tb_height prog_1_method_11_code 3 (some .int) 2 := ⟨List.mem_of_getElem? (i := 395) (by decide +kernel), List.mem_of_getElem? (i := 43) (by decide +kernel), by decide, by decide, by decide⟩
theorem mi_tb_height : Cond.instanceMethod y_tb_height ∈ tt_good := List.mem_of_getElem? (i := 393) (by decide +kernel)
theorem mz_tb_height : Cond.selects "TideTable" y_tb_height y_tb_height ∈ tt_good := List.mem_of_getElem? (i := 394) (by decide +kernel)
theorem ml_tb_121 : Cond.methodLink "TideTable" 121 y_se_heightAt ∈ tt_good := List.mem_of_getElem? (i := 396) (by decide +kernel)
def y_tb_tide : MethodName := ⟨"TideTable", "tide", "(IIII)I"⟩
theorem mw_tb_tide : tt_Mw y_tb_tide prog_1_method_12_code 7 (some .int) 4 := ⟨List.mem_of_getElem? (i := 416) (by decide +kernel), List.mem_of_getElem? (i := 43) (by decide +kernel), by decide, by decide, by decide⟩
theorem mi_tb_tide : Cond.instanceMethod y_tb_tide ∈ tt_good := List.mem_of_getElem? (i := 414) (by decide +kernel)
theorem mz_tb_tide : Cond.selects "TideTable" y_tb_tide y_tb_tide ∈ tt_good := List.mem_of_getElem? (i := 415) (by decide +kernel)
theorem ml_tb_125 : Cond.methodLink "TideTable" 125 y_se_fill ∈ tt_good := List.mem_of_getElem? (i := 417) (by decide +kernel)
def y_tb_placeOfTide : MethodName := ⟨"TideTable", "placeOfTide", "(I)I"⟩
theorem mw_tb_placeOfTide : tt_Mw y_tb_placeOfTide prog_1_method_39_code 4 (some .int) 1 := ⟨List.mem_of_getElem? (i := 424) (by decide +kernel), List.mem_of_getElem? (i := 43) (by decide +kernel), by decide, by decide, by decide⟩
theorem mi_tb_placeOfTide : Cond.instanceMethod y_tb_placeOfTide ∈ tt_good := List.mem_of_getElem? (i := 423) (by decide +kernel)
theorem mz_tb_placeOfTide : Cond.selects "TideTable" y_tb_placeOfTide y_tb_placeOfTide ∈ tt_good := List.mem_of_getElem? (i := 4) (by decide +kernel)
theorem ml_tb_129 : Cond.methodLink "TideTable" 129 y_tb_placeOfTide ∈ tt_good := List.mem_of_getElem? (i := 422) (by decide +kernel)
def y_tb_turnAt : MethodName := ⟨"TideTable", "turnAt", "(I)I"⟩
theorem mw_tb_turnAt : tt_Mw y_tb_turnAt prog_1_method_40_code 5 (some .int) 1 := ⟨List.mem_of_getElem? (i := 427) (by decide +kernel), List.mem_of_getElem? (i := 43) (by decide +kernel), by decide, by decide, by decide⟩
theorem mi_tb_turnAt : Cond.instanceMethod y_tb_turnAt ∈ tt_good := List.mem_of_getElem? (i := 426) (by decide +kernel)
theorem mz_tb_turnAt : Cond.selects "TideTable" y_tb_turnAt y_tb_turnAt ∈ tt_good := List.mem_of_getElem? (i := 5) (by decide +kernel)
theorem ml_tb_132 : Cond.methodLink "TideTable" 132 y_tb_turnAt ∈ tt_good := List.mem_of_getElem? (i := 425) (by decide +kernel)
def y_tb_gate : MethodName := ⟨"TideTable", "gate", "(IIIII)I"⟩
theorem mw_tb_gate : tt_Mw y_tb_gate prog_1_method_13_code 7 (some .int) 5 := ⟨List.mem_of_getElem? (i := 434) (by decide +kernel), List.mem_of_getElem? (i := 43) (by decide +kernel), by decide, by decide, by decide⟩
theorem mi_tb_gate : Cond.instanceMethod y_tb_gate ∈ tt_good := List.mem_of_getElem? (i := 432) (by decide +kernel)
theorem mz_tb_gate : Cond.selects "TideTable" y_tb_gate y_tb_gate ∈ tt_good := List.mem_of_getElem? (i := 433) (by decide +kernel)
def y_tb_firstOfGate : MethodName := ⟨"TideTable", "firstOfGate", "(II)I"⟩
theorem mw_tb_firstOfGate : tt_Mw y_tb_firstOfGate prog_1_method_41_code 5 (some .int) 2 := ⟨List.mem_of_getElem? (i := 437) (by decide +kernel), List.mem_of_getElem? (i := 43) (by decide +kernel), by decide, by decide, by decide⟩
theorem mi_tb_firstOfGate : Cond.instanceMethod y_tb_firstOfGate ∈ tt_good := List.mem_of_getElem? (i := 436) (by decide +kernel)
theorem mz_tb_firstOfGate : Cond.selects "TideTable" y_tb_firstOfGate y_tb_firstOfGate ∈ tt_good := List.mem_of_getElem? (i := 6) (by decide +kernel)
theorem ml_tb_135 : Cond.methodLink "TideTable" 135 y_tb_firstOfGate ∈ tt_good := List.mem_of_getElem? (i := 435) (by decide +kernel)
def y_tb_lastOfGate : MethodName := ⟨"TideTable", "lastOfGate", "(II)I"⟩
theorem mw_tb_lastOfGate : tt_Mw y_tb_lastOfGate prog_1_method_42_code 4 (some .int) 2 := ⟨List.mem_of_getElem? (i := 440) (by decide +kernel), List.mem_of_getElem? (i := 43) (by decide +kernel), by decide, by decide, by decide⟩
theorem mi_tb_lastOfGate : Cond.instanceMethod y_tb_lastOfGate ∈ tt_good := List.mem_of_getElem? (i := 439) (by decide +kernel)
theorem mz_tb_lastOfGate : Cond.selects "TideTable" y_tb_lastOfGate y_tb_lastOfGate ∈ tt_good := List.mem_of_getElem? (i := 7) (by decide +kernel)
end
section
theorem ml_tb_138 : Cond.methodLink "TideTable" 138 y_tb_lastOfGate ∈ tt_good := List.mem_of_getElem? (i := 438) (by decide +kernel)
def y_tb_dry : MethodName := ⟨"TideTable", "dry", "(III)I"⟩
theorem mw_tb_dry : tt_Mw y_tb_dry prog_1_method_14_code 6 (some .int) 3 := ⟨List.mem_of_getElem? (i := 444) (by decide +kernel), List.mem_of_getElem? (i := 43) (by decide +kernel), by decide, by decide, by decide⟩
theorem mi_tb_dry : Cond.instanceMethod y_tb_dry ∈ tt_good := List.mem_of_getElem? (i := 442) (by decide +kernel)
theorem mz_tb_dry : Cond.selects "TideTable" y_tb_dry y_tb_dry ∈ tt_good := List.mem_of_getElem? (i := 443) (by decide +kernel)
def y_tb_stream : MethodName := ⟨"TideTable", "stream", "(III)I"⟩
theorem mw_tb_stream : tt_Mw y_tb_stream prog_1_method_15_code 4 (some .int) 3 := ⟨List.mem_of_getElem? (i := 448) (by decide +kernel), List.mem_of_getElem? (i := 43) (by decide +kernel), by decide, by decide, by decide⟩
theorem mi_tb_stream : Cond.instanceMethod y_tb_stream ∈ tt_good := List.mem_of_getElem? (i := 446) (by decide +kernel)
theorem mz_tb_stream : Cond.selects "TideTable" y_tb_stream y_tb_stream ∈ tt_good := List.mem_of_getElem? (i := 447) (by decide +kernel)
def y_tb_slack : MethodName := ⟨"TideTable", "slack", "(III)I"⟩
theorem mw_tb_slack : tt_Mw y_tb_slack prog_1_method_16_code 8 (some .int) 3 := ⟨List.mem_of_getElem? (i := 452) (by decide +kernel), List.mem_of_getElem? (i := 43) (by decide +kernel), by decide, by decide, by decide⟩
theorem mi_tb_slack : Cond.instanceMethod y_tb_slack ∈ tt_good := List.mem_of_getElem? (i := 450) (by decide +kernel)
theorem mz_tb_slack : Cond.selects "TideTable" y_tb_slack y_tb_slack ∈ tt_good := List.mem_of_getElem? (i := 451) (by decide +kernel)
def y_tb_trip : MethodName := ⟨"TideTable", "trip", "(IIII)I"⟩
theorem mw_tb_trip : tt_Mw y_tb_trip prog_1_method_17_code 5 (some .int) 4 := ⟨List.mem_of_getElem? (i := 456) (by decide +kernel), List.mem_of_getElem? (i := 43) (by decide +kernel), by decide, by decide, by decide⟩
theorem mi_tb_trip : Cond.instanceMethod y_tb_trip ∈ tt_good := List.mem_of_getElem? (i := 454) (by decide +kernel)
theorem mz_tb_trip : Cond.selects "TideTable" y_tb_trip y_tb_trip ∈ tt_good := List.mem_of_getElem? (i := 455) (by decide +kernel)
def y_tb_tripFrom : MethodName := ⟨"TideTable", "tripFrom", "(II)I"⟩
theorem mw_tb_tripFrom : tt_Mw y_tb_tripFrom prog_1_method_43_code 6 (some .int) 2 := ⟨List.mem_of_getElem? (i := 459) (by decide +kernel), List.mem_of_getElem? (i := 43) (by decide +kernel), by decide, by decide, by decide⟩
theorem mi_tb_tripFrom : Cond.instanceMethod y_tb_tripFrom ∈ tt_good := List.mem_of_getElem? (i := 458) (by decide +kernel)
theorem mz_tb_tripFrom : Cond.selects "TideTable" y_tb_tripFrom y_tb_tripFrom ∈ tt_good := List.mem_of_getElem? (i := 8) (by decide +kernel)
theorem ml_tb_141 : Cond.methodLink "TideTable" 141 y_tb_tripFrom ∈ tt_good := List.mem_of_getElem? (i := 457) (by decide +kernel)
def y_tb_leave : MethodName := ⟨"TideTable", "leave", "(IIIII)I"⟩
theorem mw_tb_leave : tt_Mw y_tb_leave prog_1_method_18_code 8 (some .int) 5 := ⟨List.mem_of_getElem? (i := 464) (by decide +kernel), List.mem_of_getElem? (i := 43) (by decide +kernel), by decide, by decide, by decide⟩
theorem mi_tb_leave : Cond.instanceMethod y_tb_leave ∈ tt_good := List.mem_of_getElem? (i := 462) (by decide +kernel)
theorem mz_tb_leave : Cond.selects "TideTable" y_tb_leave y_tb_leave ∈ tt_good := List.mem_of_getElem? (i := 463) (by decide +kernel)
def y_tb_mean : MethodName := ⟨"TideTable", "mean", "(II)I"⟩
theorem mw_tb_mean : tt_Mw y_tb_mean prog_1_method_19_code 4 (some .int) 2 := ⟨List.mem_of_getElem? (i := 468) (by decide +kernel), List.mem_of_getElem? (i := 43) (by decide +kernel), by decide, by decide, by decide⟩
theorem mi_tb_mean : Cond.instanceMethod y_tb_mean ∈ tt_good := List.mem_of_getElem? (i := 466) (by decide +kernel)
theorem mz_tb_mean : Cond.selects "TideTable" y_tb_mean y_tb_mean ∈ tt_good := List.mem_of_getElem? (i := 467) (by decide +kernel)
def y_tb_mark : MethodName := ⟨"TideTable", "mark", "(II)I"⟩
theorem mw_tb_mark : tt_Mw y_tb_mark prog_1_method_20_code 4 (some .int) 2 := ⟨List.mem_of_getElem? (i := 472) (by decide +kernel), List.mem_of_getElem? (i := 43) (by decide +kernel), by decide, by decide, by decide⟩
theorem mi_tb_mark : Cond.instanceMethod y_tb_mark ∈ tt_good := List.mem_of_getElem? (i := 470) (by decide +kernel)
theorem mz_tb_mark : Cond.selects "TideTable" y_tb_mark y_tb_mark ∈ tt_good := List.mem_of_getElem? (i := 471) (by decide +kernel)
def y_tb_ratio : MethodName := ⟨"TideTable", "ratio", "(II)I"⟩
theorem mw_tb_ratio : tt_Mw y_tb_ratio prog_1_method_21_code 4 (some .int) 2 := ⟨List.mem_of_getElem? (i := 476) (by decide +kernel), List.mem_of_getElem? (i := 43) (by decide +kernel), by decide, by decide, by decide⟩
theorem mi_tb_ratio : Cond.instanceMethod y_tb_ratio ∈ tt_good := List.mem_of_getElem? (i := 474) (by decide +kernel)
theorem mz_tb_ratio : Cond.selects "TideTable" y_tb_ratio y_tb_ratio ∈ tt_good := List.mem_of_getElem? (i := 475) (by decide +kernel)
def y_tb_add : MethodName := ⟨"TideTable", "add", "(IIII)I"⟩
theorem mw_tb_add : tt_Mw y_tb_add prog_1_method_22_code 6 (some .int) 4 := ⟨List.mem_of_getElem? (i := 480) (by decide +kernel), List.mem_of_getElem? (i := 43) (by decide +kernel), by decide, by decide, by decide⟩
theorem mi_tb_add : Cond.instanceMethod y_tb_add ∈ tt_good := List.mem_of_getElem? (i := 478) (by decide +kernel)
theorem mz_tb_add : Cond.selects "TideTable" y_tb_add y_tb_add ∈ tt_good := List.mem_of_getElem? (i := 479) (by decide +kernel)
theorem ml_tb_144 : Cond.methodLink "TideTable" 144 y_po_putWave ∈ tt_good := List.mem_of_getElem? (i := 481) (by decide +kernel)
def y_tb_take : MethodName := ⟨"TideTable", "take", "(II)I"⟩
theorem mw_tb_take : tt_Mw y_tb_take prog_1_method_23_code 3 (some .int) 2 := ⟨List.mem_of_getElem? (i := 485) (by decide +kernel), List.mem_of_getElem? (i := 43) (by decide +kernel), by decide, by decide, by decide⟩
theorem mi_tb_take : Cond.instanceMethod y_tb_take ∈ tt_good := List.mem_of_getElem? (i := 483) (by decide +kernel)
theorem mz_tb_take : Cond.selects "TideTable" y_tb_take y_tb_take ∈ tt_good := List.mem_of_getElem? (i := 484) (by decide +kernel)
theorem ml_tb_148 : Cond.methodLink "TideTable" 148 y_po_dropWave ∈ tt_good := List.mem_of_getElem? (i := 486) (by decide +kernel)
def y_tb_be : MethodName := ⟨"TideTable", "be", "(II)I"⟩
theorem mw_tb_be : tt_Mw y_tb_be prog_1_method_24_code 4 (some .int) 2 := ⟨List.mem_of_getElem? (i := 493) (by decide +kernel), List.mem_of_getElem? (i := 43) (by decide +kernel), by decide, by decide, by decide⟩
theorem mi_tb_be : Cond.instanceMethod y_tb_be ∈ tt_good := List.mem_of_getElem? (i := 491) (by decide +kernel)
theorem mz_tb_be : Cond.selects "TideTable" y_tb_be y_tb_be ∈ tt_good := List.mem_of_getElem? (i := 492) (by decide +kernel)
def y_tb_see : MethodName := ⟨"TideTable", "see", "(IIZ)I"⟩
theorem mw_tb_see : tt_Mw y_tb_see prog_1_method_25_code 4 (some .int) 3 := ⟨List.mem_of_getElem? (i := 497) (by decide +kernel), List.mem_of_getElem? (i := 43) (by decide +kernel), by decide, by decide, by decide⟩
theorem mi_tb_see : Cond.instanceMethod y_tb_see ∈ tt_good := List.mem_of_getElem? (i := 495) (by decide +kernel)
theorem mz_tb_see : Cond.selects "TideTable" y_tb_see y_tb_see ∈ tt_good := List.mem_of_getElem? (i := 496) (by decide +kernel)
theorem gs_tb_152 : Cond.fieldLink "TideTable" 152 "TideTable" (tt_sN 1) "[I" ∈ tt_good := List.mem_of_getElem? (i := 342) (by decide +kernel)
theorem fl_tb_155 : tt_FL "TideTable" 155 2 2 := ⟨_, _, _, rfl, by decide, rfl, List.mem_of_getElem? (i := 160) (by decide +kernel), rfl, i_Se⟩
def y_tb_forget : MethodName := ⟨"TideTable", "forget", "()I"⟩
theorem mw_tb_forget : tt_Mw y_tb_forget prog_1_method_26_code 3 (some .int) 0 := ⟨List.mem_of_getElem? (i := 501) (by decide +kernel), List.mem_of_getElem? (i := 43) (by decide +kernel), by decide, by decide, by decide⟩
theorem mi_tb_forget : Cond.instanceMethod y_tb_forget ∈ tt_good := List.mem_of_getElem? (i := 499) (by decide +kernel)
theorem mz_tb_forget : Cond.selects "TideTable" y_tb_forget y_tb_forget ∈ tt_good := List.mem_of_getElem? (i := 500) (by decide +kernel)
def y_tb_drawn : MethodName := ⟨"TideTable", "drawn", "(III)I"⟩
theorem mw_tb_drawn : tt_Mw y_tb_drawn prog_1_method_27_code 10 (some .int) 3 := ⟨List.mem_of_getElem? (i := 505) (by decide +kernel), List.mem_of_getElem? (i := 43) (by decide +kernel), by decide, by decide, by decide⟩
theorem mi_tb_drawn : Cond.instanceMethod y_tb_drawn ∈ tt_good := List.mem_of_getElem? (i := 503) (by decide +kernel)
theorem mz_tb_drawn : Cond.selects "TideTable" y_tb_drawn y_tb_drawn ∈ tt_good := List.mem_of_getElem? (i := 504) (by decide +kernel)
def y_tb_nextSeed : MethodName := ⟨"TideTable", "nextSeed", "(I)I"⟩
theorem mw_tb_nextSeed : tt_Mw y_tb_nextSeed prog_1_method_38_code 1 (some .int) 1 := ⟨List.mem_of_getElem? (i := 508) (by decide +kernel), List.mem_of_getElem? (i := 43) (by decide +kernel), by decide, by decide, by decide⟩
theorem ms_tb_nextSeed : Cond.static y_tb_nextSeed ∈ tt_good := List.mem_of_getElem? (i := 507) (by decide +kernel)
theorem ml_tb_158 : Cond.methodLink "TideTable" 158 y_tb_nextSeed ∈ tt_good := List.mem_of_getElem? (i := 506) (by decide +kernel)
def y_tb_image : MethodName := ⟨"TideTable", "image", "()I"⟩
theorem mw_tb_image : tt_Mw y_tb_image prog_1_method_28_code 1 (some .int) 0 := ⟨List.mem_of_getElem? (i := 514) (by decide +kernel), List.mem_of_getElem? (i := 43) (by decide +kernel), by decide, by decide, by decide⟩
theorem mi_tb_image : Cond.instanceMethod y_tb_image ∈ tt_good := List.mem_of_getElem? (i := 512) (by decide +kernel)
theorem mz_tb_image : Cond.selects "TideTable" y_tb_image y_tb_image ∈ tt_good := List.mem_of_getElem? (i := 513) (by decide +kernel)
theorem ml_tb_161 : Cond.methodLink "TideTable" 161 y_se_become ∈ tt_good := List.mem_of_getElem? (i := 515) (by decide +kernel)
def y_tb_restore : MethodName := ⟨"TideTable", "restore", "()I"⟩
theorem mw_tb_restore : tt_Mw y_tb_restore prog_1_method_29_code 1 (some .int) 0 := ⟨List.mem_of_getElem? (i := 528) (by decide +kernel), List.mem_of_getElem? (i := 43) (by decide +kernel), by decide, by decide, by decide⟩
theorem mi_tb_restore : Cond.instanceMethod y_tb_restore ∈ tt_good := List.mem_of_getElem? (i := 526) (by decide +kernel)
theorem mz_tb_restore : Cond.selects "TideTable" y_tb_restore y_tb_restore ∈ tt_good := List.mem_of_getElem? (i := 527) (by decide +kernel)
def y_tb_count : MethodName := ⟨"TideTable", "count", "(I)I"⟩
theorem mw_tb_count : tt_Mw y_tb_count prog_1_method_30_code 2 (some .int) 1 := ⟨List.mem_of_getElem? (i := 532) (by decide +kernel), List.mem_of_getElem? (i := 43) (by decide +kernel), by decide, by decide, by decide⟩
theorem mi_tb_count : Cond.instanceMethod y_tb_count ∈ tt_good := List.mem_of_getElem? (i := 530) (by decide +kernel)
theorem mz_tb_count : Cond.selects "TideTable" y_tb_count y_tb_count ∈ tt_good := List.mem_of_getElem? (i := 531) (by decide +kernel)
theorem ml_tb_164 : Cond.methodLink "TideTable" 164 y_se_wavesOfAll ∈ tt_good := List.mem_of_getElem? (i := 533) (by decide +kernel)
theorem ml_tb_167 : Cond.methodLink "TideTable" 167 y_se_followers ∈ tt_good := List.mem_of_getElem? (i := 537) (by decide +kernel)
theorem ml_tb_170 : Cond.methodLink "TideTable" 170 y_se_greatestOnDay0 ∈ tt_good := List.mem_of_getElem? (i := 541) (by decide +kernel)
def y_tb_digest : MethodName := ⟨"TideTable", "digest", "()J"⟩
theorem mw_tb_digest : tt_Mw y_tb_digest prog_1_method_31_code 4 (some .long) 0 := ⟨List.mem_of_getElem? (i := 549) (by decide +kernel), List.mem_of_getElem? (i := 43) (by decide +kernel), by decide, by decide, by decide⟩
theorem mi_tb_digest : Cond.instanceMethod y_tb_digest ∈ tt_good := List.mem_of_getElem? (i := 547) (by decide +kernel)
theorem mz_tb_digest : Cond.selects "TideTable" y_tb_digest y_tb_digest ∈ tt_good := List.mem_of_getElem? (i := 548) (by decide +kernel)
theorem k_tb_173 : Cond.constantLong "TideTable" 173 1423 ∈ tt_good := List.mem_of_getElem? (i := 550) (by decide +kernel)
def y_tb_withPort : MethodName := ⟨"TideTable", "withPort", "(JI)J"⟩
theorem mw_tb_withPort : tt_Mw y_tb_withPort prog_1_method_32_code 10 (some .long) 2 := ⟨List.mem_of_getElem? (i := 553) (by decide +kernel), List.mem_of_getElem? (i := 43) (by decide +kernel), by decide, by decide, by decide⟩
theorem mi_tb_withPort : Cond.instanceMethod y_tb_withPort ∈ tt_good := List.mem_of_getElem? (i := 552) (by decide +kernel)
theorem mz_tb_withPort : Cond.selects "TideTable" y_tb_withPort y_tb_withPort ∈ tt_good := List.mem_of_getElem? (i := 9) (by decide +kernel)
theorem ml_tb_175 : Cond.methodLink "TideTable" 175 y_tb_withPort ∈ tt_good := List.mem_of_getElem? (i := 551) (by decide +kernel)
def y_tb_with : MethodName := ⟨"TideTable", "with", "(JI)J"⟩
theorem mw_tb_with : tt_Mw y_tb_with prog_1_method_33_code 3 (some .long) 2 := ⟨List.mem_of_getElem? (i := 557) (by decide +kernel), List.mem_of_getElem? (i := 43) (by decide +kernel), by decide, by decide, by decide⟩
theorem ms_tb_with : Cond.static y_tb_with ∈ tt_good := List.mem_of_getElem? (i := 556) (by decide +kernel)
theorem ml_tb_179 : Cond.methodLink "TideTable" 179 y_tb_with ∈ tt_good := List.mem_of_getElem? (i := 555) (by decide +kernel)
theorem ml_tb_182 : Cond.methodLink "TideTable" 182 y_tb_count ∈ tt_good := List.mem_of_getElem? (i := 561) (by decide +kernel)
theorem ml_tb_185 : Cond.methodLink "TideTable" 185 y_tb_port ∈ tt_good := List.mem_of_getElem? (i := 554) (by decide +kernel)
theorem ml_tb_188 : Cond.methodLink "TideTable" 188 y_tb_wave ∈ tt_good := List.mem_of_getElem? (i := 559) (by decide +kernel)
theorem gs_tb_192 : Cond.fieldLink "TideTable" 192 "TideTable" (tt_sN 2) "[I" ∈ tt_good := List.mem_of_getElem? (i := 560) (by decide +kernel)
theorem k_tb_195 : Cond.constantLong "TideTable" 195 31 ∈ tt_good := List.mem_of_getElem? (i := 558) (by decide +kernel)
theorem gs_tb_197 : Cond.fieldLink "TideTable" 197 "TideTable" (tt_sN 0) "[I" ∈ tt_good := List.mem_of_getElem? (i := 376) (by decide +kernel)
def y_tb_leftAtWorst : MethodName := ⟨"TideTable", "leftAtWorst", "(II)I"⟩
theorem mw_tb_leftAtWorst : tt_Mw y_tb_leftAtWorst prog_1_method_37_code 2 (some .int) 2 := ⟨List.mem_of_getElem? (i := 345) (by decide +kernel), List.mem_of_getElem? (i := 43) (by decide +kernel), by decide, by decide, by decide⟩
theorem ms_tb_leftAtWorst : Cond.static y_tb_leftAtWorst ∈ tt_good := List.mem_of_getElem? (i := 344) (by decide +kernel)
theorem ml_tb_200 : Cond.methodLink "TideTable" 200 y_tb_leftAtWorst ∈ tt_good := List.mem_of_getElem? (i := 343) (by decide +kernel)
def y_in_bitCount : MethodName := ⟨"java/lang/Integer", "bitCount", "(I)I"⟩
theorem mw_in_bitCount : tt_Mw y_in_bitCount prog_9_method_49_code 1 (some .int) 1 := ⟨List.mem_of_getElem? (i := 348) (by decide +kernel), List.mem_of_getElem? (i := 55) (by decide +kernel), by decide, by decide, by decide⟩
theorem ms_in_bitCount : Cond.static y_in_bitCount ∈ tt_good := List.mem_of_getElem? (i := 347) (by decide +kernel)
theorem ml_tb_203 : Cond.methodLink "TideTable" 203 y_in_bitCount ∈ tt_good := List.mem_of_getElem? (i := 346) (by decide +kernel)
theorem ml_tb_208 : Cond.methodLink "TideTable" 208 y_ma_max ∈ tt_good := List.mem_of_getElem? (i := 352) (by decide +kernel)
theorem k_tb_213 : Cond.constant "TideTable" 213 1103515245 ∈ tt_good := List.mem_of_getElem? (i := 509) (by decide +kernel)
theorem k_tb_214 : Cond.constant "TideTable" 214 2147483647 ∈ tt_good := List.mem_of_getElem? (i := 510) (by decide +kernel)
def y_in_compare : MethodName := ⟨"java/lang/Integer", "compare", "(II)I"⟩
theorem mw_in_compare : tt_Mw y_in_compare prog_9_method_40_code 2 (some .int) 2 := ⟨List.mem_of_getElem? (i := 430) (by decide +kernel), List.mem_of_getElem? (i := 55) (by decide +kernel), by decide, by decide, by decide⟩
theorem ms_in_compare : Cond.static y_in_compare ∈ tt_good := List.mem_of_getElem? (i := 429) (by decide +kernel)
theorem ml_tb_215 : Cond.methodLink "TideTable" 215 y_in_compare ∈ tt_good := List.mem_of_getElem? (i := 428) (by decide +kernel)
theorem ml_tb_218 : Cond.methodLink "TideTable" 218 y_ma_floorDiv ∈ tt_good := List.mem_of_getElem? (i := 460) (by decide +kernel)
def y_mo_init : MethodName := ⟨"TideTableModel", "<init>", "()V"⟩
theorem mw_mo_init : tt_Mw y_mo_init prog_7_method_1_code 3 none 0 := ⟨List.mem_of_getElem? (i := 566) (by decide +kernel), List.mem_of_getElem? (i := 48) (by decide +kernel), by decide, by decide, by decide⟩
theorem mi_mo_init : Cond.instanceMethod y_mo_init ∈ tt_good := List.mem_of_getElem? (i := 565) (by decide +kernel)
theorem fl_mo_7 : tt_FL "TideTableModel" 7 5 2 := ⟨_, _, _, rfl, by decide, rfl, List.mem_of_getElem? (i := 573) (by decide +kernel), rfl, i_Mo⟩
theorem fl_mo_13 : tt_FL "TideTableModel" 13 5 3 := ⟨_, _, _, rfl, by decide, rfl, List.mem_of_getElem? (i := 574) (by decide +kernel), rfl, i_Mo⟩
theorem fl_mo_16 : tt_FL "TideTableModel" 16 5 4 := ⟨_, _, _, rfl, by decide, rfl, List.mem_of_getElem? (i := 575) (by decide +kernel), rfl, i_Mo⟩
theorem fl_mo_19 : tt_FL "TideTableModel" 19 5 5 := ⟨_, _, _, rfl, by decide, rfl, List.mem_of_getElem? (i := 576) (by decide +kernel), rfl, i_Mo⟩
theorem fl_mo_22 : tt_FL "TideTableModel" 22 5 6 := ⟨_, _, _, rfl, by decide, rfl, List.mem_of_getElem? (i := 577) (by decide +kernel), rfl, i_Mo⟩
theorem fl_mo_25 : tt_FL "TideTableModel" 25 5 7 := ⟨_, _, _, rfl, by decide, rfl, List.mem_of_getElem? (i := 578) (by decide +kernel), rfl, i_Mo⟩
theorem fl_mo_28 : tt_FL "TideTableModel" 28 5 8 := ⟨_, _, _, rfl, by decide, rfl, List.mem_of_getElem? (i := 579) (by decide +kernel), rfl, i_Mo⟩
theorem fl_mo_31 : tt_FL "TideTableModel" 31 5 10 := ⟨_, _, _, rfl, by decide, rfl, List.mem_of_getElem? (i := 581) (by decide +kernel), rfl, i_Mo⟩
theorem fl_mo_34 : tt_FL "TideTableModel" 34 5 11 := ⟨_, _, _, rfl, by decide, rfl, List.mem_of_getElem? (i := 582) (by decide +kernel), rfl, i_Mo⟩
theorem fl_mo_37 : tt_FL "TideTableModel" 37 5 12 := ⟨_, _, _, rfl, by decide, rfl, List.mem_of_getElem? (i := 583) (by decide +kernel), rfl, i_Mo⟩
theorem fl_mo_40 : tt_FL "TideTableModel" 40 5 14 := ⟨_, _, _, rfl, by decide, rfl, List.mem_of_getElem? (i := 585) (by decide +kernel), rfl, i_Mo⟩
theorem fl_mo_44 : tt_FL "TideTableModel" 44 5 18 := ⟨_, _, _, rfl, by decide, rfl, List.mem_of_getElem? (i := 589) (by decide +kernel), rfl, i_Mo⟩
theorem fl_mo_47 : tt_FL "TideTableModel" 47 5 19 := ⟨_, _, _, rfl, by decide, rfl, List.mem_of_getElem? (i := 590) (by decide +kernel), rfl, i_Mo⟩
theorem fl_mo_50 : tt_FL "TideTableModel" 50 5 20 := ⟨_, _, _, rfl, by decide, rfl, List.mem_of_getElem? (i := 591) (by decide +kernel), rfl, i_Mo⟩
theorem fl_mo_53 : tt_FL "TideTableModel" 53 5 21 := ⟨_, _, _, rfl, by decide, rfl, List.mem_of_getElem? (i := 592) (by decide +kernel), rfl, i_Mo⟩
theorem fl_mo_56 : tt_FL "TideTableModel" 56 5 22 := ⟨_, _, _, rfl, by decide, rfl, List.mem_of_getElem? (i := 593) (by decide +kernel), rfl, i_Mo⟩
theorem fl_mo_59 : tt_FL "TideTableModel" 59 5 23 := ⟨_, _, _, rfl, by decide, rfl, List.mem_of_getElem? (i := 594) (by decide +kernel), rfl, i_Mo⟩
theorem fl_mo_62 : tt_FL "TideTableModel" 62 5 29 := ⟨_, _, _, rfl, by decide, rfl, List.mem_of_getElem? (i := 600) (by decide +kernel), rfl, i_Mo⟩
theorem fl_mo_65 : tt_FL "TideTableModel" 65 5 30 := ⟨_, _, _, rfl, by decide, rfl, List.mem_of_getElem? (i := 601) (by decide +kernel), rfl, i_Mo⟩
theorem fl_mo_68 : tt_FL "TideTableModel" 68 5 31 := ⟨_, _, _, rfl, by decide, rfl, List.mem_of_getElem? (i := 602) (by decide +kernel), rfl, i_Mo⟩
theorem fl_mo_71 : tt_FL "TideTableModel" 71 5 32 := ⟨_, _, _, rfl, by decide, rfl, List.mem_of_getElem? (i := 603) (by decide +kernel), rfl, i_Mo⟩
theorem fl_mo_74 : tt_FL "TideTableModel" 74 5 33 := ⟨_, _, _, rfl, by decide, rfl, List.mem_of_getElem? (i := 604) (by decide +kernel), rfl, i_Mo⟩
theorem fl_mo_77 : tt_FL "TideTableModel" 77 5 34 := ⟨_, _, _, rfl, by decide, rfl, List.mem_of_getElem? (i := 605) (by decide +kernel), rfl, i_Mo⟩
theorem fl_mo_80 : tt_FL "TideTableModel" 80 5 35 := ⟨_, _, _, rfl, by decide, rfl, List.mem_of_getElem? (i := 606) (by decide +kernel), rfl, i_Mo⟩
theorem fl_mo_83 : tt_FL "TideTableModel" 83 5 36 := ⟨_, _, _, rfl, by decide, rfl, List.mem_of_getElem? (i := 607) (by decide +kernel), rfl, i_Mo⟩
theorem fl_mo_86 : tt_FL "TideTableModel" 86 5 37 := ⟨_, _, _, rfl, by decide, rfl, List.mem_of_getElem? (i := 608) (by decide +kernel), rfl, i_Mo⟩
def y_mo_quarter : MethodName := ⟨"TideTableModel", "quarter", "(I)I"⟩
theorem mw_mo_quarter : tt_Mw y_mo_quarter prog_7_method_3_code 1 (some .int) 1 := ⟨List.mem_of_getElem? (i := 570) (by decide +kernel), List.mem_of_getElem? (i := 48) (by decide +kernel), by decide, by decide, by decide⟩
theorem ms_mo_quarter : Cond.static y_mo_quarter ∈ tt_good := List.mem_of_getElem? (i := 569) (by decide +kernel)
theorem ml_mo_89 : Cond.methodLink "TideTableModel" 89 y_mo_quarter ∈ tt_good := List.mem_of_getElem? (i := 568) (by decide +kernel)
def y_mo_within : MethodName := ⟨"TideTableModel", "within", "(III)Z"⟩
theorem mw_mo_within : tt_Mw y_mo_within prog_7_method_4_code 3 (some .boolean) 3 := ⟨List.mem_of_getElem? (i := 695) (by decide +kernel), List.mem_of_getElem? (i := 48) (by decide +kernel), by decide, by decide, by decide⟩
theorem ms_mo_within : Cond.static y_mo_within ∈ tt_good := List.mem_of_getElem? (i := 694) (by decide +kernel)
def y_mo_isIn : MethodName := ⟨"TideTableModel", "isIn", "(II)Z"⟩
theorem mw_mo_isIn : tt_Mw y_mo_isIn prog_7_method_5_code 2 (some .boolean) 2 := ⟨List.mem_of_getElem? (i := 751) (by decide +kernel), List.mem_of_getElem? (i := 48) (by decide +kernel), by decide, by decide, by decide⟩
theorem ms_mo_isIn : Cond.static y_mo_isIn ∈ tt_good := List.mem_of_getElem? (i := 750) (by decide +kernel)
def y_mo_size : MethodName := ⟨"TideTableModel", "size", "(I)I"⟩
theorem mw_mo_size : tt_Mw y_mo_size prog_7_method_6_code 3 (some .int) 1 := ⟨List.mem_of_getElem? (i := 754) (by decide +kernel), List.mem_of_getElem? (i := 48) (by decide +kernel), by decide, by decide, by decide⟩
theorem ms_mo_size : Cond.static y_mo_size ∈ tt_good := List.mem_of_getElem? (i := 753) (by decide +kernel)
def y_mo_by : MethodName := ⟨"TideTableModel", "by", "(II)I"⟩
theorem mw_mo_by : tt_Mw y_mo_by prog_7_method_7_code 3 (some .int) 2 := ⟨List.mem_of_getElem? (i := 788) (by decide +kernel), List.mem_of_getElem? (i := 48) (by decide +kernel), by decide, by decide, by decide⟩
theorem ms_mo_by : Cond.static y_mo_by ∈ tt_good := List.mem_of_getElem? (i := 787) (by decide +kernel)
def y_mo_letter : MethodName := ⟨"TideTableModel", "letter", "(I)I"⟩
theorem mw_mo_letter : tt_Mw y_mo_letter prog_7_method_8_code 2 (some .int) 1 := ⟨List.mem_of_getElem? (i := 692) (by decide +kernel), List.mem_of_getElem? (i := 48) (by decide +kernel), by decide, by decide, by decide⟩
theorem mi_mo_letter : Cond.instanceMethod y_mo_letter ∈ tt_good := List.mem_of_getElem? (i := 690) (by decide +kernel)
theorem mz_mo_letter : Cond.selects "TideTableModel" y_mo_letter y_mo_letter ∈ tt_good := List.mem_of_getElem? (i := 691) (by decide +kernel)
theorem ml_mo_93 : Cond.methodLink "TideTableModel" 93 y_mo_within ∈ tt_good := List.mem_of_getElem? (i := 693) (by decide +kernel)
theorem fl_mo_97 : tt_FL "TideTableModel" 97 5 13 := ⟨_, _, _, rfl, by decide, rfl, List.mem_of_getElem? (i := 584) (by decide +kernel), rfl, i_Mo⟩
theorem fp_5_13 : tt_FP 5 13 .int := ⟨_, _, _, t_Mo, rfl, t_Mo_ok, n_Mo, rfl, by decide +kernel⟩
def y_mo_blank : MethodName := ⟨"TideTableModel", "blank", "()I"⟩
theorem mw_mo_blank : tt_Mw y_mo_blank prog_7_method_9_code 2 (some .int) 0 := ⟨List.mem_of_getElem? (i := 699) (by decide +kernel), List.mem_of_getElem? (i := 48) (by decide +kernel), by decide, by decide, by decide⟩
theorem mi_mo_blank : Cond.instanceMethod y_mo_blank ∈ tt_good := List.mem_of_getElem? (i := 697) (by decide +kernel)
theorem mz_mo_blank : Cond.selects "TideTableModel" y_mo_blank y_mo_blank ∈ tt_good := List.mem_of_getElem? (i := 698) (by decide +kernel)
def y_mo_kindBy : MethodName := ⟨"TideTableModel", "kindBy", "(I)I"⟩
theorem mw_mo_kindBy : tt_Mw y_mo_kindBy prog_7_method_10_code 1 (some .int) 1 := ⟨List.mem_of_getElem? (i := 715) (by decide +kernel), List.mem_of_getElem? (i := 48) (by decide +kernel), by decide, by decide, by decide⟩
theorem ms_mo_kindBy : Cond.static y_mo_kindBy ∈ tt_good := List.mem_of_getElem? (i := 714) (by decide +kernel)
def y_mo_at : MethodName := ⟨"TideTableModel", "at", "(I)I"⟩
theorem mw_mo_at : tt_Mw y_mo_at prog_7_method_11_code 2 (some .int) 1 := ⟨List.mem_of_getElem? (i := 712) (by decide +kernel), List.mem_of_getElem? (i := 48) (by decide +kernel), by decide, by decide, by decide⟩
theorem mi_mo_at : Cond.instanceMethod y_mo_at ∈ tt_good := List.mem_of_getElem? (i := 711) (by decide +kernel)
theorem mz_mo_at : Cond.selects "TideTableModel" y_mo_at y_mo_at ∈ tt_good := List.mem_of_getElem? (i := 12) (by decide +kernel)
def y_mo_isFigure : MethodName := ⟨"TideTableModel", "isFigure", "(I)Z"⟩
theorem mw_mo_isFigure : tt_Mw y_mo_isFigure prog_7_method_12_code 2 (some .boolean) 1 := ⟨List.mem_of_getElem? (i := 721) (by decide +kernel), List.mem_of_getElem? (i := 48) (by decide +kernel), by decide, by decide, by decide⟩
theorem mi_mo_isFigure : Cond.instanceMethod y_mo_isFigure ∈ tt_good := List.mem_of_getElem? (i := 720) (by decide +kernel)
theorem mz_mo_isFigure : Cond.selects "TideTableModel" y_mo_isFigure y_mo_isFigure ∈ tt_good := List.mem_of_getElem? (i := 14) (by decide +kernel)
theorem ml_mo_101 : Cond.methodLink "TideTableModel" 101 y_mo_at ∈ tt_good := List.mem_of_getElem? (i := 710) (by decide +kernel)
def y_mo_readNumber : MethodName := ⟨"TideTableModel", "readNumber", "(III)I"⟩
theorem mw_mo_readNumber : tt_Mw y_mo_readNumber prog_7_method_13_code 4 (some .int) 3 := ⟨List.mem_of_getElem? (i := 718) (by decide +kernel), List.mem_of_getElem? (i := 48) (by decide +kernel), by decide, by decide, by decide⟩
theorem mi_mo_readNumber : Cond.instanceMethod y_mo_readNumber ∈ tt_good := List.mem_of_getElem? (i := 717) (by decide +kernel)
theorem mz_mo_readNumber : Cond.selects "TideTableModel" y_mo_readNumber y_mo_readNumber ∈ tt_good := List.mem_of_getElem? (i := 13) (by decide +kernel)
theorem ml_mo_104 : Cond.methodLink "TideTableModel" 104 y_mo_isFigure ∈ tt_good := List.mem_of_getElem? (i := 719) (by decide +kernel)
theorem fl_mo_108 : tt_FL "TideTableModel" 108 5 16 := ⟨_, _, _, rfl, by decide, rfl, List.mem_of_getElem? (i := 587) (by decide +kernel), rfl, i_Mo⟩
theorem fp_5_16 : tt_FP 5 16 .boolean := ⟨_, _, _, t_Mo, rfl, t_Mo_ok, n_Mo, rfl, by decide +kernel⟩
theorem fl_mo_112 : tt_FL "TideTableModel" 112 5 24 := ⟨_, _, _, rfl, by decide, rfl, List.mem_of_getElem? (i := 595) (by decide +kernel), rfl, i_Mo⟩
theorem fp_5_24 : tt_FP 5 24 .int := ⟨_, _, _, t_Mo, rfl, t_Mo_ok, n_Mo, rfl, by decide +kernel⟩
def y_mo_readWave : MethodName := ⟨"TideTableModel", "readWave", "(I)I"⟩
theorem mw_mo_readWave : tt_Mw y_mo_readWave prog_7_method_14_code 5 (some .int) 1 := ⟨List.mem_of_getElem? (i := 724) (by decide +kernel), List.mem_of_getElem? (i := 48) (by decide +kernel), by decide, by decide, by decide⟩
theorem mi_mo_readWave : Cond.instanceMethod y_mo_readWave ∈ tt_good := List.mem_of_getElem? (i := 723) (by decide +kernel)
theorem mz_mo_readWave : Cond.selects "TideTableModel" y_mo_readWave y_mo_readWave ∈ tt_good := List.mem_of_getElem? (i := 15) (by decide +kernel)
theorem fl_mo_115 : tt_FL "TideTableModel" 115 5 17 := ⟨_, _, _, rfl, by decide, rfl, List.mem_of_getElem? (i := 588) (by decide +kernel), rfl, i_Mo⟩
theorem ml_mo_118 : Cond.methodLink "TideTableModel" 118 y_mo_readNumber ∈ tt_good := List.mem_of_getElem? (i := 716) (by decide +kernel)
def y_mo_readPort : MethodName := ⟨"TideTableModel", "readPort", "(I)I"⟩
theorem mw_mo_readPort : tt_Mw y_mo_readPort prog_7_method_15_code 4 (some .int) 1 := ⟨List.mem_of_getElem? (i := 709) (by decide +kernel), List.mem_of_getElem? (i := 48) (by decide +kernel), by decide, by decide, by decide⟩
theorem mi_mo_readPort : Cond.instanceMethod y_mo_readPort ∈ tt_good := List.mem_of_getElem? (i := 708) (by decide +kernel)
theorem mz_mo_readPort : Cond.selects "TideTableModel" y_mo_readPort y_mo_readPort ∈ tt_good := List.mem_of_getElem? (i := 11) (by decide +kernel)
theorem ml_mo_122 : Cond.methodLink "TideTableModel" 122 y_mo_kindBy ∈ tt_good := List.mem_of_getElem? (i := 713) (by decide +kernel)
theorem ml_mo_125 : Cond.methodLink "TideTableModel" 125 y_mo_readWave ∈ tt_good := List.mem_of_getElem? (i := 722) (by decide +kernel)
theorem fp_5_17 : tt_FP 5 17 .int := ⟨_, _, _, t_Mo, rfl, t_Mo_ok, n_Mo, rfl, by decide +kernel⟩
def y_mo_read : MethodName := ⟨"TideTableModel", "read", "()I"⟩
theorem mw_mo_read : tt_Mw y_mo_read prog_7_method_16_code 2 (some .int) 0 := ⟨List.mem_of_getElem? (i := 706) (by decide +kernel), List.mem_of_getElem? (i := 48) (by decide +kernel), by decide, by decide, by decide⟩
theorem mi_mo_read : Cond.instanceMethod y_mo_read ∈ tt_good := List.mem_of_getElem? (i := 705) (by decide +kernel)
theorem mz_mo_read : Cond.selects "TideTableModel" y_mo_read y_mo_read ∈ tt_good := List.mem_of_getElem? (i := 10) (by decide +kernel)
theorem fl_mo_128 : tt_FL "TideTableModel" 128 5 15 := ⟨_, _, _, rfl, by decide, rfl, List.mem_of_getElem? (i := 586) (by decide +kernel), rfl, i_Mo⟩
theorem fp_5_15 : tt_FP 5 15 .boolean := ⟨_, _, _, t_Mo, rfl, t_Mo_ok, n_Mo, rfl, by decide +kernel⟩
theorem ml_mo_131 : Cond.methodLink "TideTableModel" 131 y_mo_readPort ∈ tt_good := List.mem_of_getElem? (i := 707) (by decide +kernel)
def y_mo_fault : MethodName := ⟨"TideTableModel", "fault", "()I"⟩
theorem mw_mo_fault : tt_Mw y_mo_fault prog_7_method_17_code 1 (some .int) 0 := ⟨List.mem_of_getElem? (i := 703) (by decide +kernel), List.mem_of_getElem? (i := 48) (by decide +kernel), by decide, by decide, by decide⟩
theorem mi_mo_fault : Cond.instanceMethod y_mo_fault ∈ tt_good := List.mem_of_getElem? (i := 701) (by decide +kernel)
theorem mz_mo_fault : Cond.selects "TideTableModel" y_mo_fault y_mo_fault ∈ tt_good := List.mem_of_getElem? (i := 702) (by decide +kernel)
theorem ml_mo_134 : Cond.methodLink "TideTableModel" 134 y_mo_read ∈ tt_good := List.mem_of_getElem? (i := 704) (by decide +kernel)
def y_mo_ports : MethodName := ⟨"TideTableModel", "ports", "()I"⟩
theorem mw_mo_ports : tt_Mw y_mo_ports prog_7_method_18_code 2 (some .int) 0 := ⟨List.mem_of_getElem? (i := 728) (by decide +kernel), List.mem_of_getElem? (i := 48) (by decide +kernel), by decide, by decide, by decide⟩
theorem mi_mo_ports : Cond.instanceMethod y_mo_ports ∈ tt_good := List.mem_of_getElem? (i := 726) (by decide +kernel)
theorem mz_mo_ports : Cond.selects "TideTableModel" y_mo_ports y_mo_ports ∈ tt_good := List.mem_of_getElem? (i := 727) (by decide +kernel)
theorem fl_mo_138 : tt_FL "TideTableModel" 138 5 1 := ⟨_, _, _, rfl, by decide, rfl, List.mem_of_getElem? (i := 572) (by decide +kernel), rfl, i_Mo⟩
theorem fp_5_1 : tt_FP 5 1 .int := ⟨_, _, _, t_Mo, rfl, t_Mo_ok, n_Mo, rfl, by decide +kernel⟩
theorem fl_mo_141 : tt_FL "TideTableModel" 141 5 0 := ⟨_, _, _, rfl, by decide, rfl, List.mem_of_getElem? (i := 571) (by decide +kernel), rfl, i_Mo⟩
theorem fp_5_0 : tt_FP 5 0 .int := ⟨_, _, _, t_Mo, rfl, t_Mo_ok, n_Mo, rfl, by decide +kernel⟩
theorem fl_mo_144 : tt_FL "TideTableModel" 144 5 9 := ⟨_, _, _, rfl, by decide, rfl, List.mem_of_getElem? (i := 580) (by decide +kernel), rfl, i_Mo⟩
theorem fp_5_9 : tt_FP 5 9 .int := ⟨_, _, _, t_Mo, rfl, t_Mo_ok, n_Mo, rfl, by decide +kernel⟩
def y_mo_isPort : MethodName := ⟨"TideTableModel", "isPort", "(I)Z"⟩
theorem mw_mo_isPort : tt_Mw y_mo_isPort prog_7_method_19_code 2 (some .boolean) 1 := ⟨List.mem_of_getElem? (i := 735) (by decide +kernel), List.mem_of_getElem? (i := 48) (by decide +kernel), by decide, by decide, by decide⟩
theorem mi_mo_isPort : Cond.instanceMethod y_mo_isPort ∈ tt_good := List.mem_of_getElem? (i := 734) (by decide +kernel)
theorem mz_mo_isPort : Cond.selects "TideTableModel" y_mo_isPort y_mo_isPort ∈ tt_good := List.mem_of_getElem? (i := 16) (by decide +kernel)
def y_mo_isWave : MethodName := ⟨"TideTableModel", "isWave", "(II)Z"⟩
theorem mw_mo_isWave : tt_Mw y_mo_isWave prog_7_method_20_code 3 (some .boolean) 2 := ⟨List.mem_of_getElem? (i := 761) (by decide +kernel), List.mem_of_getElem? (i := 48) (by decide +kernel), by decide, by decide, by decide⟩
theorem mi_mo_isWave : Cond.instanceMethod y_mo_isWave ∈ tt_good := List.mem_of_getElem? (i := 760) (by decide +kernel)
theorem mz_mo_isWave : Cond.selects "TideTableModel" y_mo_isWave y_mo_isWave ∈ tt_good := List.mem_of_getElem? (i := 20) (by decide +kernel)
theorem ml_mo_147 : Cond.methodLink "TideTableModel" 147 y_mo_isPort ∈ tt_good := List.mem_of_getElem? (i := 733) (by decide +kernel)
def y_mo_isNumber : MethodName := ⟨"TideTableModel", "isNumber", "(I)Z"⟩
theorem mw_mo_isNumber : tt_Mw y_mo_isNumber prog_7_method_21_code 1 (some .boolean) 1 := ⟨List.mem_of_getElem? (i := 872) (by decide +kernel), List.mem_of_getElem? (i := 48) (by decide +kernel), by decide, by decide, by decide⟩
theorem ms_mo_isNumber : Cond.static y_mo_isNumber ∈ tt_good := List.mem_of_getElem? (i := 871) (by decide +kernel)
def y_mo_portNow : MethodName := ⟨"TideTableModel", "portNow", "(II)I"⟩
theorem mw_mo_portNow : tt_Mw y_mo_portNow prog_7_method_22_code 3 (some .int) 2 := ⟨List.mem_of_getElem? (i := 738) (by decide +kernel), List.mem_of_getElem? (i := 48) (by decide +kernel), by decide, by decide, by decide⟩
theorem mi_mo_portNow : Cond.instanceMethod y_mo_portNow ∈ tt_good := List.mem_of_getElem? (i := 737) (by decide +kernel)
theorem mz_mo_portNow : Cond.selects "TideTableModel" y_mo_portNow y_mo_portNow ∈ tt_good := List.mem_of_getElem? (i := 17) (by decide +kernel)
def y_mo_sortsOf : MethodName := ⟨"TideTableModel", "sortsOf", "(I)I"⟩
theorem mw_mo_sortsOf : tt_Mw y_mo_sortsOf prog_7_method_64_code 6 (some .int) 1 := ⟨List.mem_of_getElem? (i := 741) (by decide +kernel), List.mem_of_getElem? (i := 48) (by decide +kernel), by decide, by decide, by decide⟩
theorem mi_mo_sortsOf : Cond.instanceMethod y_mo_sortsOf ∈ tt_good := List.mem_of_getElem? (i := 740) (by decide +kernel)
theorem mz_mo_sortsOf : Cond.selects "TideTableModel" y_mo_sortsOf y_mo_sortsOf ∈ tt_good := List.mem_of_getElem? (i := 18) (by decide +kernel)
theorem ml_mo_150 : Cond.methodLink "TideTableModel" 150 y_mo_sortsOf ∈ tt_good := List.mem_of_getElem? (i := 739) (by decide +kernel)
def y_mo_askOf : MethodName := ⟨"TideTableModel", "askOf", "(I)I"⟩
theorem mw_mo_askOf : tt_Mw y_mo_askOf prog_7_method_65_code 9 (some .int) 1 := ⟨List.mem_of_getElem? (i := 747) (by decide +kernel), List.mem_of_getElem? (i := 48) (by decide +kernel), by decide, by decide, by decide⟩
theorem mi_mo_askOf : Cond.instanceMethod y_mo_askOf ∈ tt_good := List.mem_of_getElem? (i := 746) (by decide +kernel)
theorem mz_mo_askOf : Cond.selects "TideTableModel" y_mo_askOf y_mo_askOf ∈ tt_good := List.mem_of_getElem? (i := 19) (by decide +kernel)
theorem ml_mo_153 : Cond.methodLink "TideTableModel" 153 y_mo_askOf ∈ tt_good := List.mem_of_getElem? (i := 745) (by decide +kernel)
def y_mo_port : MethodName := ⟨"TideTableModel", "port", "(II)I"⟩
theorem mw_mo_port : tt_Mw y_mo_port prog_7_method_23_code 3 (some .int) 2 := ⟨List.mem_of_getElem? (i := 732) (by decide +kernel), List.mem_of_getElem? (i := 48) (by decide +kernel), by decide, by decide, by decide⟩
theorem mi_mo_port : Cond.instanceMethod y_mo_port ∈ tt_good := List.mem_of_getElem? (i := 730) (by decide +kernel)
theorem mz_mo_port : Cond.selects "TideTableModel" y_mo_port y_mo_port ∈ tt_good := List.mem_of_getElem? (i := 731) (by decide +kernel)
theorem ml_mo_156 : Cond.methodLink "TideTableModel" 156 y_mo_portNow ∈ tt_good := List.mem_of_getElem? (i := 736) (by decide +kernel)
def y_mo_waveNow : MethodName := ⟨"TideTableModel", "waveNow", "(III)I"⟩
theorem mw_mo_waveNow : tt_Mw y_mo_waveNow prog_7_method_24_code 4 (some .int) 3 := ⟨List.mem_of_getElem? (i := 764) (by decide +kernel), List.mem_of_getElem? (i := 48) (by decide +kernel), by decide, by decide, by decide⟩
theorem mi_mo_waveNow : Cond.instanceMethod y_mo_waveNow ∈ tt_good := List.mem_of_getElem? (i := 763) (by decide +kernel)
theorem mz_mo_waveNow : Cond.selects "TideTableModel" y_mo_waveNow y_mo_waveNow ∈ tt_good := List.mem_of_getElem? (i := 21) (by decide +kernel)
def y_mo_wave : MethodName := ⟨"TideTableModel", "wave", "(III)I"⟩
theorem mw_mo_wave : tt_Mw y_mo_wave prog_7_method_25_code 4 (some .int) 3 := ⟨List.mem_of_getElem? (i := 758) (by decide +kernel), List.mem_of_getElem? (i := 48) (by decide +kernel), by decide, by decide, by decide⟩
theorem mi_mo_wave : Cond.instanceMethod y_mo_wave ∈ tt_good := List.mem_of_getElem? (i := 756) (by decide +kernel)
theorem mz_mo_wave : Cond.selects "TideTableModel" y_mo_wave y_mo_wave ∈ tt_good := List.mem_of_getElem? (i := 757) (by decide +kernel)
theorem ml_mo_160 : Cond.methodLink "TideTableModel" 160 y_mo_isWave ∈ tt_good := List.mem_of_getElem? (i := 759) (by decide +kernel)
theorem ml_mo_164 : Cond.methodLink "TideTableModel" 164 y_mo_waveNow ∈ tt_good := List.mem_of_getElem? (i := 762) (by decide +kernel)
def y_mo_as : MethodName := ⟨"TideTableModel", "as", "(II)I"⟩
theorem mw_mo_as : tt_Mw y_mo_as prog_7_method_26_code 4 (some .int) 2 := ⟨List.mem_of_getElem? (i := 768) (by decide +kernel), List.mem_of_getElem? (i := 48) (by decide +kernel), by decide, by decide, by decide⟩
theorem mi_mo_as : Cond.instanceMethod y_mo_as ∈ tt_good := List.mem_of_getElem? (i := 766) (by decide +kernel)
theorem mz_mo_as : Cond.selects "TideTableModel" y_mo_as y_mo_as ∈ tt_good := List.mem_of_getElem? (i := 767) (by decide +kernel)
def y_mo_round : MethodName := ⟨"TideTableModel", "round", "(I)I"⟩
theorem mw_mo_round : tt_Mw y_mo_round prog_7_method_27_code 2 (some .int) 1 := ⟨List.mem_of_getElem? (i := 772) (by decide +kernel), List.mem_of_getElem? (i := 48) (by decide +kernel), by decide, by decide, by decide⟩
theorem mi_mo_round : Cond.instanceMethod y_mo_round ∈ tt_good := List.mem_of_getElem? (i := 770) (by decide +kernel)
theorem mz_mo_round : Cond.selects "TideTableModel" y_mo_round y_mo_round ∈ tt_good := List.mem_of_getElem? (i := 771) (by decide +kernel)
def y_mo_turnAt : MethodName := ⟨"TideTableModel", "turnAt", "(I)I"⟩
theorem mw_mo_turnAt : tt_Mw y_mo_turnAt prog_7_method_28_code 4 (some .int) 1 := ⟨List.mem_of_getElem? (i := 785) (by decide +kernel), List.mem_of_getElem? (i := 48) (by decide +kernel), by decide, by decide, by decide⟩
theorem mi_mo_turnAt : Cond.instanceMethod y_mo_turnAt ∈ tt_good := List.mem_of_getElem? (i := 784) (by decide +kernel)
theorem mz_mo_turnAt : Cond.selects "TideTableModel" y_mo_turnAt y_mo_turnAt ∈ tt_good := List.mem_of_getElem? (i := 23) (by decide +kernel)
theorem ml_mo_167 : Cond.methodLink "TideTableModel" 167 y_mo_by ∈ tt_good := List.mem_of_getElem? (i := 786) (by decide +kernel)
def y_mo_sumAt : MethodName := ⟨"TideTableModel", "sumAt", "(II)I"⟩
theorem mw_mo_sumAt : tt_Mw y_mo_sumAt prog_7_method_29_code 7 (some .int) 2 := ⟨List.mem_of_getElem? (i := 782) (by decide +kernel), List.mem_of_getElem? (i := 48) (by decide +kernel), by decide, by decide, by decide⟩
theorem mi_mo_sumAt : Cond.instanceMethod y_mo_sumAt ∈ tt_good := List.mem_of_getElem? (i := 781) (by decide +kernel)
theorem mz_mo_sumAt : Cond.selects "TideTableModel" y_mo_sumAt y_mo_sumAt ∈ tt_good := List.mem_of_getElem? (i := 22) (by decide +kernel)
theorem ml_mo_170 : Cond.methodLink "TideTableModel" 170 y_mo_turnAt ∈ tt_good := List.mem_of_getElem? (i := 783) (by decide +kernel)
def y_mo_silled : MethodName := ⟨"TideTableModel", "silled", "(II)I"⟩
theorem mw_mo_silled : tt_Mw y_mo_silled prog_7_method_30_code 4 (some .int) 2 := ⟨List.mem_of_getElem? (i := 801) (by decide +kernel), List.mem_of_getElem? (i := 48) (by decide +kernel), by decide, by decide, by decide⟩
theorem mi_mo_silled : Cond.instanceMethod y_mo_silled ∈ tt_good := List.mem_of_getElem? (i := 800) (by decide +kernel)
theorem mz_mo_silled : Cond.selects "TideTableModel" y_mo_silled y_mo_silled ∈ tt_good := List.mem_of_getElem? (i := 26) (by decide +kernel)
theorem ml_mo_173 : Cond.methodLink "TideTableModel" 173 y_mo_sumAt ∈ tt_good := List.mem_of_getElem? (i := 780) (by decide +kernel)
def y_mo_ownHeight : MethodName := ⟨"TideTableModel", "ownHeight", "(II)I"⟩
theorem mw_mo_ownHeight : tt_Mw y_mo_ownHeight prog_7_method_31_code 6 (some .int) 2 := ⟨List.mem_of_getElem? (i := 798) (by decide +kernel), List.mem_of_getElem? (i := 48) (by decide +kernel), by decide, by decide, by decide⟩
theorem mi_mo_ownHeight : Cond.instanceMethod y_mo_ownHeight ∈ tt_good := List.mem_of_getElem? (i := 797) (by decide +kernel)
theorem mz_mo_ownHeight : Cond.selects "TideTableModel" y_mo_ownHeight y_mo_ownHeight ∈ tt_good := List.mem_of_getElem? (i := 25) (by decide +kernel)
theorem ml_mo_176 : Cond.methodLink "TideTableModel" 176 y_mo_silled ∈ tt_good := List.mem_of_getElem? (i := 799) (by decide +kernel)
def y_mo_heightAt : MethodName := ⟨"TideTableModel", "heightAt", "(II)I"⟩
theorem mw_mo_heightAt : tt_Mw y_mo_heightAt prog_7_method_32_code 3 (some .int) 2 := ⟨List.mem_of_getElem? (i := 795) (by decide +kernel), List.mem_of_getElem? (i := 48) (by decide +kernel), by decide, by decide, by decide⟩
theorem mi_mo_heightAt : Cond.instanceMethod y_mo_heightAt ∈ tt_good := List.mem_of_getElem? (i := 794) (by decide +kernel)
theorem mz_mo_heightAt : Cond.selects "TideTableModel" y_mo_heightAt y_mo_heightAt ∈ tt_good := List.mem_of_getElem? (i := 24) (by decide +kernel)
theorem ml_mo_179 : Cond.methodLink "TideTableModel" 179 y_mo_ownHeight ∈ tt_good := List.mem_of_getElem? (i := 796) (by decide +kernel)
def y_mo_isTick : MethodName := ⟨"TideTableModel", "isTick", "(I)Z"⟩
theorem mw_mo_isTick : tt_Mw y_mo_isTick prog_7_method_33_code 1 (some .boolean) 1 := ⟨List.mem_of_getElem? (i := 779) (by decide +kernel), List.mem_of_getElem? (i := 48) (by decide +kernel), by decide, by decide, by decide⟩
theorem ms_mo_isTick : Cond.static y_mo_isTick ∈ tt_good := List.mem_of_getElem? (i := 778) (by decide +kernel)
end
section
def y_mo_sum : MethodName := ⟨"TideTableModel", "sum", "(II)I"⟩
theorem mw_mo_sum : tt_Mw y_mo_sum prog_7_method_34_code 3 (some .int) 2 := ⟨List.mem_of_getElem? (i := 776) (by decide +kernel), List.mem_of_getElem? (i := 48) (by decide +kernel), by decide, by decide, by decide⟩
theorem mi_mo_sum : Cond.instanceMethod y_mo_sum ∈ tt_good := List.mem_of_getElem? (i := 774) (by decide +kernel)
theorem mz_mo_sum : Cond.selects "TideTableModel" y_mo_sum y_mo_sum ∈ tt_good := List.mem_of_getElem? (i := 775) (by decide +kernel)
theorem ml_mo_182 : Cond.methodLink "TideTableModel" 182 y_mo_isTick ∈ tt_good := List.mem_of_getElem? (i := 777) (by decide +kernel)
def y_mo_height : MethodName := ⟨"TideTableModel", "height", "(II)I"⟩
theorem mw_mo_height : tt_Mw y_mo_height prog_7_method_35_code 3 (some .int) 2 := ⟨List.mem_of_getElem? (i := 792) (by decide +kernel), List.mem_of_getElem? (i := 48) (by decide +kernel), by decide, by decide, by decide⟩
theorem mi_mo_height : Cond.instanceMethod y_mo_height ∈ tt_good := List.mem_of_getElem? (i := 790) (by decide +kernel)
theorem mz_mo_height : Cond.selects "TideTableModel" y_mo_height y_mo_height ∈ tt_good := List.mem_of_getElem? (i := 791) (by decide +kernel)
theorem ml_mo_185 : Cond.methodLink "TideTableModel" 185 y_mo_heightAt ∈ tt_good := List.mem_of_getElem? (i := 793) (by decide +kernel)
def y_mo_then : MethodName := ⟨"TideTableModel", "then", "(II)I"⟩
theorem mw_mo_then : tt_Mw y_mo_then prog_7_method_36_code 6 (some .int) 2 := ⟨List.mem_of_getElem? (i := 817) (by decide +kernel), List.mem_of_getElem? (i := 48) (by decide +kernel), by decide, by decide, by decide⟩
theorem mi_mo_then : Cond.instanceMethod y_mo_then ∈ tt_good := List.mem_of_getElem? (i := 816) (by decide +kernel)
theorem mz_mo_then : Cond.selects "TideTableModel" y_mo_then y_mo_then ∈ tt_good := List.mem_of_getElem? (i := 29) (by decide +kernel)
def y_mo_turnsAt : MethodName := ⟨"TideTableModel", "turnsAt", "(II)I"⟩
theorem mw_mo_turnsAt : tt_Mw y_mo_turnsAt prog_7_method_37_code 5 (some .int) 2 := ⟨List.mem_of_getElem? (i := 814) (by decide +kernel), List.mem_of_getElem? (i := 48) (by decide +kernel), by decide, by decide, by decide⟩
theorem mi_mo_turnsAt : Cond.instanceMethod y_mo_turnsAt ∈ tt_good := List.mem_of_getElem? (i := 813) (by decide +kernel)
theorem mz_mo_turnsAt : Cond.selects "TideTableModel" y_mo_turnsAt y_mo_turnsAt ∈ tt_good := List.mem_of_getElem? (i := 28) (by decide +kernel)
theorem ml_mo_188 : Cond.methodLink "TideTableModel" 188 y_mo_then ∈ tt_good := List.mem_of_getElem? (i := 815) (by decide +kernel)
def y_mo_isDay : MethodName := ⟨"TideTableModel", "isDay", "(I)Z"⟩
theorem mw_mo_isDay : tt_Mw y_mo_isDay prog_7_method_38_code 1 (some .boolean) 1 := ⟨List.mem_of_getElem? (i := 808) (by decide +kernel), List.mem_of_getElem? (i := 48) (by decide +kernel), by decide, by decide, by decide⟩
theorem ms_mo_isDay : Cond.static y_mo_isDay ∈ tt_good := List.mem_of_getElem? (i := 807) (by decide +kernel)
def y_mo_isNeed : MethodName := ⟨"TideTableModel", "isNeed", "(I)Z"⟩
theorem mw_mo_isNeed : tt_Mw y_mo_isNeed prog_7_method_39_code 1 (some .boolean) 1 := ⟨List.mem_of_getElem? (i := 824) (by decide +kernel), List.mem_of_getElem? (i := 48) (by decide +kernel), by decide, by decide, by decide⟩
theorem ms_mo_isNeed : Cond.static y_mo_isNeed ∈ tt_good := List.mem_of_getElem? (i := 823) (by decide +kernel)
def y_mo_tideNow : MethodName := ⟨"TideTableModel", "tideNow", "(IIII)I"⟩
theorem mw_mo_tideNow : tt_Mw y_mo_tideNow prog_7_method_40_code 8 (some .int) 4 := ⟨List.mem_of_getElem? (i := 811) (by decide +kernel), List.mem_of_getElem? (i := 48) (by decide +kernel), by decide, by decide, by decide⟩
theorem mi_mo_tideNow : Cond.instanceMethod y_mo_tideNow ∈ tt_good := List.mem_of_getElem? (i := 810) (by decide +kernel)
theorem mz_mo_tideNow : Cond.selects "TideTableModel" y_mo_tideNow y_mo_tideNow ∈ tt_good := List.mem_of_getElem? (i := 27) (by decide +kernel)
theorem ml_mo_191 : Cond.methodLink "TideTableModel" 191 y_mo_turnsAt ∈ tt_good := List.mem_of_getElem? (i := 812) (by decide +kernel)
def y_mo_tide : MethodName := ⟨"TideTableModel", "tide", "(IIII)I"⟩
theorem mw_mo_tide : tt_Mw y_mo_tide prog_7_method_41_code 5 (some .int) 4 := ⟨List.mem_of_getElem? (i := 805) (by decide +kernel), List.mem_of_getElem? (i := 48) (by decide +kernel), by decide, by decide, by decide⟩
theorem mi_mo_tide : Cond.instanceMethod y_mo_tide ∈ tt_good := List.mem_of_getElem? (i := 803) (by decide +kernel)
theorem mz_mo_tide : Cond.selects "TideTableModel" y_mo_tide y_mo_tide ∈ tt_good := List.mem_of_getElem? (i := 804) (by decide +kernel)
theorem ml_mo_194 : Cond.methodLink "TideTableModel" 194 y_mo_isDay ∈ tt_good := List.mem_of_getElem? (i := 806) (by decide +kernel)
theorem ml_mo_197 : Cond.methodLink "TideTableModel" 197 y_mo_tideNow ∈ tt_good := List.mem_of_getElem? (i := 809) (by decide +kernel)
def y_mo_gateNow : MethodName := ⟨"TideTableModel", "gateNow", "(IIIII)I"⟩
theorem mw_mo_gateNow : tt_Mw y_mo_gateNow prog_7_method_42_code 12 (some .int) 5 := ⟨List.mem_of_getElem? (i := 827) (by decide +kernel), List.mem_of_getElem? (i := 48) (by decide +kernel), by decide, by decide, by decide⟩
theorem mi_mo_gateNow : Cond.instanceMethod y_mo_gateNow ∈ tt_good := List.mem_of_getElem? (i := 826) (by decide +kernel)
theorem mz_mo_gateNow : Cond.selects "TideTableModel" y_mo_gateNow y_mo_gateNow ∈ tt_good := List.mem_of_getElem? (i := 30) (by decide +kernel)
def y_mo_gate : MethodName := ⟨"TideTableModel", "gate", "(IIIII)I"⟩
theorem mw_mo_gate : tt_Mw y_mo_gate prog_7_method_43_code 6 (some .int) 5 := ⟨List.mem_of_getElem? (i := 821) (by decide +kernel), List.mem_of_getElem? (i := 48) (by decide +kernel), by decide, by decide, by decide⟩
theorem mi_mo_gate : Cond.instanceMethod y_mo_gate ∈ tt_good := List.mem_of_getElem? (i := 819) (by decide +kernel)
theorem mz_mo_gate : Cond.selects "TideTableModel" y_mo_gate y_mo_gate ∈ tt_good := List.mem_of_getElem? (i := 820) (by decide +kernel)
theorem ml_mo_201 : Cond.methodLink "TideTableModel" 201 y_mo_isNeed ∈ tt_good := List.mem_of_getElem? (i := 822) (by decide +kernel)
theorem ml_mo_204 : Cond.methodLink "TideTableModel" 204 y_mo_gateNow ∈ tt_good := List.mem_of_getElem? (i := 825) (by decide +kernel)
def y_mo_dryNow : MethodName := ⟨"TideTableModel", "dryNow", "(III)I"⟩
theorem mw_mo_dryNow : tt_Mw y_mo_dryNow prog_7_method_44_code 6 (some .int) 3 := ⟨List.mem_of_getElem? (i := 834) (by decide +kernel), List.mem_of_getElem? (i := 48) (by decide +kernel), by decide, by decide, by decide⟩
theorem mi_mo_dryNow : Cond.instanceMethod y_mo_dryNow ∈ tt_good := List.mem_of_getElem? (i := 833) (by decide +kernel)
theorem mz_mo_dryNow : Cond.selects "TideTableModel" y_mo_dryNow y_mo_dryNow ∈ tt_good := List.mem_of_getElem? (i := 31) (by decide +kernel)
def y_mo_dry : MethodName := ⟨"TideTableModel", "dry", "(III)I"⟩
theorem mw_mo_dry : tt_Mw y_mo_dry prog_7_method_45_code 4 (some .int) 3 := ⟨List.mem_of_getElem? (i := 831) (by decide +kernel), List.mem_of_getElem? (i := 48) (by decide +kernel), by decide, by decide, by decide⟩
theorem mi_mo_dry : Cond.instanceMethod y_mo_dry ∈ tt_good := List.mem_of_getElem? (i := 829) (by decide +kernel)
theorem mz_mo_dry : Cond.selects "TideTableModel" y_mo_dry y_mo_dry ∈ tt_good := List.mem_of_getElem? (i := 830) (by decide +kernel)
theorem ml_mo_208 : Cond.methodLink "TideTableModel" 208 y_mo_dryNow ∈ tt_good := List.mem_of_getElem? (i := 832) (by decide +kernel)
def y_mo_streamAt : MethodName := ⟨"TideTableModel", "streamAt", "(III)I"⟩
theorem mw_mo_streamAt : tt_Mw y_mo_streamAt prog_7_method_46_code 4 (some .int) 3 := ⟨List.mem_of_getElem? (i := 841) (by decide +kernel), List.mem_of_getElem? (i := 48) (by decide +kernel), by decide, by decide, by decide⟩
theorem mi_mo_streamAt : Cond.instanceMethod y_mo_streamAt ∈ tt_good := List.mem_of_getElem? (i := 840) (by decide +kernel)
theorem mz_mo_streamAt : Cond.selects "TideTableModel" y_mo_streamAt y_mo_streamAt ∈ tt_good := List.mem_of_getElem? (i := 32) (by decide +kernel)
def y_mo_stream : MethodName := ⟨"TideTableModel", "stream", "(III)I"⟩
theorem mw_mo_stream : tt_Mw y_mo_stream prog_7_method_47_code 4 (some .int) 3 := ⟨List.mem_of_getElem? (i := 838) (by decide +kernel), List.mem_of_getElem? (i := 48) (by decide +kernel), by decide, by decide, by decide⟩
theorem mi_mo_stream : Cond.instanceMethod y_mo_stream ∈ tt_good := List.mem_of_getElem? (i := 836) (by decide +kernel)
theorem mz_mo_stream : Cond.selects "TideTableModel" y_mo_stream y_mo_stream ∈ tt_good := List.mem_of_getElem? (i := 837) (by decide +kernel)
theorem ml_mo_211 : Cond.methodLink "TideTableModel" 211 y_mo_streamAt ∈ tt_good := List.mem_of_getElem? (i := 839) (by decide +kernel)
def y_mo_slackNow : MethodName := ⟨"TideTableModel", "slackNow", "(III)I"⟩
theorem mw_mo_slackNow : tt_Mw y_mo_slackNow prog_7_method_48_code 7 (some .int) 3 := ⟨List.mem_of_getElem? (i := 848) (by decide +kernel), List.mem_of_getElem? (i := 48) (by decide +kernel), by decide, by decide, by decide⟩
theorem mi_mo_slackNow : Cond.instanceMethod y_mo_slackNow ∈ tt_good := List.mem_of_getElem? (i := 847) (by decide +kernel)
theorem mz_mo_slackNow : Cond.selects "TideTableModel" y_mo_slackNow y_mo_slackNow ∈ tt_good := List.mem_of_getElem? (i := 33) (by decide +kernel)
def y_mo_slack : MethodName := ⟨"TideTableModel", "slack", "(III)I"⟩
theorem mw_mo_slack : tt_Mw y_mo_slack prog_7_method_49_code 4 (some .int) 3 := ⟨List.mem_of_getElem? (i := 845) (by decide +kernel), List.mem_of_getElem? (i := 48) (by decide +kernel), by decide, by decide, by decide⟩
theorem mi_mo_slack : Cond.instanceMethod y_mo_slack ∈ tt_good := List.mem_of_getElem? (i := 843) (by decide +kernel)
theorem mz_mo_slack : Cond.selects "TideTableModel" y_mo_slack y_mo_slack ∈ tt_good := List.mem_of_getElem? (i := 844) (by decide +kernel)
theorem ml_mo_214 : Cond.methodLink "TideTableModel" 214 y_mo_slackNow ∈ tt_good := List.mem_of_getElem? (i := 846) (by decide +kernel)
def y_mo_tripNow : MethodName := ⟨"TideTableModel", "tripNow", "(IIII)I"⟩
theorem mw_mo_tripNow : tt_Mw y_mo_tripNow prog_7_method_50_code 8 (some .int) 4 := ⟨List.mem_of_getElem? (i := 858) (by decide +kernel), List.mem_of_getElem? (i := 48) (by decide +kernel), by decide, by decide, by decide⟩
theorem mi_mo_tripNow : Cond.instanceMethod y_mo_tripNow ∈ tt_good := List.mem_of_getElem? (i := 857) (by decide +kernel)
theorem mz_mo_tripNow : Cond.selects "TideTableModel" y_mo_tripNow y_mo_tripNow ∈ tt_good := List.mem_of_getElem? (i := 34) (by decide +kernel)
def y_mo_isPace : MethodName := ⟨"TideTableModel", "isPace", "(I)Z"⟩
theorem mw_mo_isPace : tt_Mw y_mo_isPace prog_7_method_51_code 1 (some .boolean) 1 := ⟨List.mem_of_getElem? (i := 855) (by decide +kernel), List.mem_of_getElem? (i := 48) (by decide +kernel), by decide, by decide, by decide⟩
theorem ms_mo_isPace : Cond.static y_mo_isPace ∈ tt_good := List.mem_of_getElem? (i := 854) (by decide +kernel)
def y_mo_trip : MethodName := ⟨"TideTableModel", "trip", "(IIII)I"⟩
theorem mw_mo_trip : tt_Mw y_mo_trip prog_7_method_52_code 5 (some .int) 4 := ⟨List.mem_of_getElem? (i := 852) (by decide +kernel), List.mem_of_getElem? (i := 48) (by decide +kernel), by decide, by decide, by decide⟩
theorem mi_mo_trip : Cond.instanceMethod y_mo_trip ∈ tt_good := List.mem_of_getElem? (i := 850) (by decide +kernel)
theorem mz_mo_trip : Cond.selects "TideTableModel" y_mo_trip y_mo_trip ∈ tt_good := List.mem_of_getElem? (i := 851) (by decide +kernel)
theorem ml_mo_217 : Cond.methodLink "TideTableModel" 217 y_mo_isPace ∈ tt_good := List.mem_of_getElem? (i := 853) (by decide +kernel)
theorem ml_mo_220 : Cond.methodLink "TideTableModel" 220 y_mo_tripNow ∈ tt_good := List.mem_of_getElem? (i := 856) (by decide +kernel)
def y_mo_leaveNow : MethodName := ⟨"TideTableModel", "leaveNow", "(IIIII)I"⟩
theorem mw_mo_leaveNow : tt_Mw y_mo_leaveNow prog_7_method_53_code 8 (some .int) 5 := ⟨List.mem_of_getElem? (i := 865) (by decide +kernel), List.mem_of_getElem? (i := 48) (by decide +kernel), by decide, by decide, by decide⟩
theorem mi_mo_leaveNow : Cond.instanceMethod y_mo_leaveNow ∈ tt_good := List.mem_of_getElem? (i := 864) (by decide +kernel)
theorem mz_mo_leaveNow : Cond.selects "TideTableModel" y_mo_leaveNow y_mo_leaveNow ∈ tt_good := List.mem_of_getElem? (i := 35) (by decide +kernel)
def y_mo_leave : MethodName := ⟨"TideTableModel", "leave", "(IIIII)I"⟩
theorem mw_mo_leave : tt_Mw y_mo_leave prog_7_method_54_code 6 (some .int) 5 := ⟨List.mem_of_getElem? (i := 862) (by decide +kernel), List.mem_of_getElem? (i := 48) (by decide +kernel), by decide, by decide, by decide⟩
theorem mi_mo_leave : Cond.instanceMethod y_mo_leave ∈ tt_good := List.mem_of_getElem? (i := 860) (by decide +kernel)
theorem mz_mo_leave : Cond.selects "TideTableModel" y_mo_leave y_mo_leave ∈ tt_good := List.mem_of_getElem? (i := 861) (by decide +kernel)
theorem ml_mo_223 : Cond.methodLink "TideTableModel" 223 y_mo_leaveNow ∈ tt_good := List.mem_of_getElem? (i := 863) (by decide +kernel)
def y_mo_mean : MethodName := ⟨"TideTableModel", "mean", "(II)I"⟩
theorem mw_mo_mean : tt_Mw y_mo_mean prog_7_method_55_code 4 (some .int) 2 := ⟨List.mem_of_getElem? (i := 869) (by decide +kernel), List.mem_of_getElem? (i := 48) (by decide +kernel), by decide, by decide, by decide⟩
theorem mi_mo_mean : Cond.instanceMethod y_mo_mean ∈ tt_good := List.mem_of_getElem? (i := 867) (by decide +kernel)
theorem mz_mo_mean : Cond.selects "TideTableModel" y_mo_mean y_mo_mean ∈ tt_good := List.mem_of_getElem? (i := 868) (by decide +kernel)
theorem ml_mo_226 : Cond.methodLink "TideTableModel" 226 y_mo_isNumber ∈ tt_good := List.mem_of_getElem? (i := 870) (by decide +kernel)
def y_mo_mark : MethodName := ⟨"TideTableModel", "mark", "(II)I"⟩
theorem mw_mo_mark : tt_Mw y_mo_mark prog_7_method_56_code 4 (some .int) 2 := ⟨List.mem_of_getElem? (i := 876) (by decide +kernel), List.mem_of_getElem? (i := 48) (by decide +kernel), by decide, by decide, by decide⟩
theorem mi_mo_mark : Cond.instanceMethod y_mo_mark ∈ tt_good := List.mem_of_getElem? (i := 874) (by decide +kernel)
theorem mz_mo_mark : Cond.selects "TideTableModel" y_mo_mark y_mo_mark ∈ tt_good := List.mem_of_getElem? (i := 875) (by decide +kernel)
def y_mo_ratio : MethodName := ⟨"TideTableModel", "ratio", "(II)I"⟩
theorem mw_mo_ratio : tt_Mw y_mo_ratio prog_7_method_57_code 4 (some .int) 2 := ⟨List.mem_of_getElem? (i := 880) (by decide +kernel), List.mem_of_getElem? (i := 48) (by decide +kernel), by decide, by decide, by decide⟩
theorem mi_mo_ratio : Cond.instanceMethod y_mo_ratio ∈ tt_good := List.mem_of_getElem? (i := 878) (by decide +kernel)
theorem mz_mo_ratio : Cond.selects "TideTableModel" y_mo_ratio y_mo_ratio ∈ tt_good := List.mem_of_getElem? (i := 879) (by decide +kernel)
def y_mo_add : MethodName := ⟨"TideTableModel", "add", "(IIII)I"⟩
theorem mw_mo_add : tt_Mw y_mo_add prog_7_method_58_code 6 (some .int) 4 := ⟨List.mem_of_getElem? (i := 884) (by decide +kernel), List.mem_of_getElem? (i := 48) (by decide +kernel), by decide, by decide, by decide⟩
theorem mi_mo_add : Cond.instanceMethod y_mo_add ∈ tt_good := List.mem_of_getElem? (i := 882) (by decide +kernel)
theorem mz_mo_add : Cond.selects "TideTableModel" y_mo_add y_mo_add ∈ tt_good := List.mem_of_getElem? (i := 883) (by decide +kernel)
def y_mo_take : MethodName := ⟨"TideTableModel", "take", "(II)I"⟩
theorem mw_mo_take : tt_Mw y_mo_take prog_7_method_59_code 4 (some .int) 2 := ⟨List.mem_of_getElem? (i := 888) (by decide +kernel), List.mem_of_getElem? (i := 48) (by decide +kernel), by decide, by decide, by decide⟩
theorem mi_mo_take : Cond.instanceMethod y_mo_take ∈ tt_good := List.mem_of_getElem? (i := 886) (by decide +kernel)
theorem mz_mo_take : Cond.selects "TideTableModel" y_mo_take y_mo_take ∈ tt_good := List.mem_of_getElem? (i := 887) (by decide +kernel)
def y_mo_be : MethodName := ⟨"TideTableModel", "be", "(II)I"⟩
theorem mw_mo_be : tt_Mw y_mo_be prog_7_method_60_code 4 (some .int) 2 := ⟨List.mem_of_getElem? (i := 892) (by decide +kernel), List.mem_of_getElem? (i := 48) (by decide +kernel), by decide, by decide, by decide⟩
theorem mi_mo_be : Cond.instanceMethod y_mo_be ∈ tt_good := List.mem_of_getElem? (i := 890) (by decide +kernel)
theorem mz_mo_be : Cond.selects "TideTableModel" y_mo_be y_mo_be ∈ tt_good := List.mem_of_getElem? (i := 891) (by decide +kernel)
def y_mo_could : MethodName := ⟨"TideTableModel", "could", "(II)Z"⟩
theorem mw_mo_could : tt_Mw y_mo_could prog_7_method_61_code 2 (some .boolean) 2 := ⟨List.mem_of_getElem? (i := 744) (by decide +kernel), List.mem_of_getElem? (i := 48) (by decide +kernel), by decide, by decide, by decide⟩
theorem ms_mo_could : Cond.static y_mo_could ∈ tt_good := List.mem_of_getElem? (i := 743) (by decide +kernel)
def y_mo_see : MethodName := ⟨"TideTableModel", "see", "(IIZ)I"⟩
theorem mw_mo_see : tt_Mw y_mo_see prog_7_method_62_code 4 (some .int) 3 := ⟨List.mem_of_getElem? (i := 896) (by decide +kernel), List.mem_of_getElem? (i := 48) (by decide +kernel), by decide, by decide, by decide⟩
theorem mi_mo_see : Cond.instanceMethod y_mo_see ∈ tt_good := List.mem_of_getElem? (i := 894) (by decide +kernel)
theorem mz_mo_see : Cond.selects "TideTableModel" y_mo_see y_mo_see ∈ tt_good := List.mem_of_getElem? (i := 895) (by decide +kernel)
def y_mo_forget : MethodName := ⟨"TideTableModel", "forget", "()I"⟩
theorem mw_mo_forget : tt_Mw y_mo_forget prog_7_method_63_code 2 (some .int) 0 := ⟨List.mem_of_getElem? (i := 900) (by decide +kernel), List.mem_of_getElem? (i := 48) (by decide +kernel), by decide, by decide, by decide⟩
theorem mi_mo_forget : Cond.instanceMethod y_mo_forget ∈ tt_good := List.mem_of_getElem? (i := 898) (by decide +kernel)
theorem mz_mo_forget : Cond.selects "TideTableModel" y_mo_forget y_mo_forget ∈ tt_good := List.mem_of_getElem? (i := 899) (by decide +kernel)
theorem ml_mo_229 : Cond.methodLink "TideTableModel" 229 y_mo_could ∈ tt_good := List.mem_of_getElem? (i := 742) (by decide +kernel)
theorem k_mo_232 : Cond.constant "TideTableModel" 232 268435456 ∈ tt_good := List.mem_of_getElem? (i := 748) (by decide +kernel)
theorem ml_mo_233 : Cond.methodLink "TideTableModel" 233 y_mo_isIn ∈ tt_good := List.mem_of_getElem? (i := 749) (by decide +kernel)
theorem ml_mo_236 : Cond.methodLink "TideTableModel" 236 y_mo_size ∈ tt_good := List.mem_of_getElem? (i := 752) (by decide +kernel)
def y_mo_draw : MethodName := ⟨"TideTableModel", "draw", "(I)I"⟩
theorem mw_mo_draw : tt_Mw y_mo_draw prog_7_method_66_code 2 (some .int) 1 := ⟨List.mem_of_getElem? (i := 910) (by decide +kernel), List.mem_of_getElem? (i := 48) (by decide +kernel), by decide, by decide, by decide⟩
theorem mi_mo_draw : Cond.instanceMethod y_mo_draw ∈ tt_good := List.mem_of_getElem? (i := 909) (by decide +kernel)
theorem mz_mo_draw : Cond.selects "TideTableModel" y_mo_draw y_mo_draw ∈ tt_good := List.mem_of_getElem? (i := 37) (by decide +kernel)
theorem k_mo_239 : Cond.constantLong "TideTableModel" 239 1103515245 ∈ tt_good := List.mem_of_getElem? (i := 911) (by decide +kernel)
theorem fl_mo_241 : tt_FL "TideTableModel" 241 5 25 := ⟨_, _, _, rfl, by decide, rfl, List.mem_of_getElem? (i := 596) (by decide +kernel), rfl, i_Mo⟩
theorem k_mo_245 : Cond.constantLong "TideTableModel" 245 12345 ∈ tt_good := List.mem_of_getElem? (i := 912) (by decide +kernel)
theorem k_mo_247 : Cond.constantLong "TideTableModel" 247 2147483647 ∈ tt_good := List.mem_of_getElem? (i := 913) (by decide +kernel)
theorem fp_5_25 : tt_FP 5 25 .long := ⟨_, _, _, t_Mo, rfl, t_Mo_ok, n_Mo, rfl, by decide +kernel⟩
theorem k_mo_249 : Cond.constantLong "TideTableModel" 249 65536 ∈ tt_good := List.mem_of_getElem? (i := 914) (by decide +kernel)
def y_mo_drawnNow : MethodName := ⟨"TideTableModel", "drawnNow", "(III)I"⟩
theorem mw_mo_drawnNow : tt_Mw y_mo_drawnNow prog_7_method_67_code 9 (some .int) 3 := ⟨List.mem_of_getElem? (i := 907) (by decide +kernel), List.mem_of_getElem? (i := 48) (by decide +kernel), by decide, by decide, by decide⟩
theorem mi_mo_drawnNow : Cond.instanceMethod y_mo_drawnNow ∈ tt_good := List.mem_of_getElem? (i := 906) (by decide +kernel)
theorem mz_mo_drawnNow : Cond.selects "TideTableModel" y_mo_drawnNow y_mo_drawnNow ∈ tt_good := List.mem_of_getElem? (i := 36) (by decide +kernel)
theorem ml_mo_251 : Cond.methodLink "TideTableModel" 251 y_mo_draw ∈ tt_good := List.mem_of_getElem? (i := 908) (by decide +kernel)
def y_mo_drawn : MethodName := ⟨"TideTableModel", "drawn", "(III)I"⟩
theorem mw_mo_drawn : tt_Mw y_mo_drawn prog_7_method_68_code 4 (some .int) 3 := ⟨List.mem_of_getElem? (i := 904) (by decide +kernel), List.mem_of_getElem? (i := 48) (by decide +kernel), by decide, by decide, by decide⟩
theorem mi_mo_drawn : Cond.instanceMethod y_mo_drawn ∈ tt_good := List.mem_of_getElem? (i := 902) (by decide +kernel)
theorem mz_mo_drawn : Cond.selects "TideTableModel" y_mo_drawn y_mo_drawn ∈ tt_good := List.mem_of_getElem? (i := 903) (by decide +kernel)
theorem ml_mo_254 : Cond.methodLink "TideTableModel" 254 y_mo_drawnNow ∈ tt_good := List.mem_of_getElem? (i := 905) (by decide +kernel)
def y_mo_image : MethodName := ⟨"TideTableModel", "image", "()I"⟩
theorem mw_mo_image : tt_Mw y_mo_image prog_7_method_69_code 2 (some .int) 0 := ⟨List.mem_of_getElem? (i := 918) (by decide +kernel), List.mem_of_getElem? (i := 48) (by decide +kernel), by decide, by decide, by decide⟩
theorem mi_mo_image : Cond.instanceMethod y_mo_image ∈ tt_good := List.mem_of_getElem? (i := 916) (by decide +kernel)
theorem mz_mo_image : Cond.selects "TideTableModel" y_mo_image y_mo_image ∈ tt_good := List.mem_of_getElem? (i := 917) (by decide +kernel)
theorem fl_mo_257 : tt_FL "TideTableModel" 257 5 26 := ⟨_, _, _, rfl, by decide, rfl, List.mem_of_getElem? (i := 597) (by decide +kernel), rfl, i_Mo⟩
theorem fp_5_26 : tt_FP 5 26 .boolean := ⟨_, _, _, t_Mo, rfl, t_Mo_ok, n_Mo, rfl, by decide +kernel⟩
theorem fl_mo_260 : tt_FL "TideTableModel" 260 5 27 := ⟨_, _, _, rfl, by decide, rfl, List.mem_of_getElem? (i := 598) (by decide +kernel), rfl, i_Mo⟩
theorem fp_5_27 : tt_FP 5 27 .int := ⟨_, _, _, t_Mo, rfl, t_Mo_ok, n_Mo, rfl, by decide +kernel⟩
theorem fl_mo_263 : tt_FL "TideTableModel" 263 5 28 := ⟨_, _, _, rfl, by decide, rfl, List.mem_of_getElem? (i := 599) (by decide +kernel), rfl, i_Mo⟩
theorem fp_5_28 : tt_FP 5 28 .int := ⟨_, _, _, t_Mo, rfl, t_Mo_ok, n_Mo, rfl, by decide +kernel⟩
def y_mo_restore : MethodName := ⟨"TideTableModel", "restore", "()I"⟩
theorem mw_mo_restore : tt_Mw y_mo_restore prog_7_method_70_code 2 (some .int) 0 := ⟨List.mem_of_getElem? (i := 922) (by decide +kernel), List.mem_of_getElem? (i := 48) (by decide +kernel), by decide, by decide, by decide⟩
theorem mi_mo_restore : Cond.instanceMethod y_mo_restore ∈ tt_good := List.mem_of_getElem? (i := 920) (by decide +kernel)
theorem mz_mo_restore : Cond.selects "TideTableModel" y_mo_restore y_mo_restore ∈ tt_good := List.mem_of_getElem? (i := 921) (by decide +kernel)
def y_mo_greatest : MethodName := ⟨"TideTableModel", "greatest", "()I"⟩
theorem mw_mo_greatest : tt_Mw y_mo_greatest prog_7_method_71_code 5 (some .int) 0 := ⟨List.mem_of_getElem? (i := 935) (by decide +kernel), List.mem_of_getElem? (i := 48) (by decide +kernel), by decide, by decide, by decide⟩
theorem mi_mo_greatest : Cond.instanceMethod y_mo_greatest ∈ tt_good := List.mem_of_getElem? (i := 934) (by decide +kernel)
theorem mz_mo_greatest : Cond.selects "TideTableModel" y_mo_greatest y_mo_greatest ∈ tt_good := List.mem_of_getElem? (i := 40) (by decide +kernel)
theorem k_mo_266 : Cond.constant "TideTableModel" 266 (-268435456) ∈ tt_good := List.mem_of_getElem? (i := 936) (by decide +kernel)
def y_mo_ofPorts : MethodName := ⟨"TideTableModel", "ofPorts", "(I)I"⟩
theorem mw_mo_ofPorts : tt_Mw y_mo_ofPorts prog_7_method_72_code 4 (some .int) 1 := ⟨List.mem_of_getElem? (i := 932) (by decide +kernel), List.mem_of_getElem? (i := 48) (by decide +kernel), by decide, by decide, by decide⟩
theorem mi_mo_ofPorts : Cond.instanceMethod y_mo_ofPorts ∈ tt_good := List.mem_of_getElem? (i := 931) (by decide +kernel)
theorem mz_mo_ofPorts : Cond.selects "TideTableModel" y_mo_ofPorts y_mo_ofPorts ∈ tt_good := List.mem_of_getElem? (i := 39) (by decide +kernel)
def y_mo_howMany : MethodName := ⟨"TideTableModel", "howMany", "(I)I"⟩
theorem mw_mo_howMany : tt_Mw y_mo_howMany prog_7_method_73_code 2 (some .int) 1 := ⟨List.mem_of_getElem? (i := 929) (by decide +kernel), List.mem_of_getElem? (i := 48) (by decide +kernel), by decide, by decide, by decide⟩
theorem mi_mo_howMany : Cond.instanceMethod y_mo_howMany ∈ tt_good := List.mem_of_getElem? (i := 928) (by decide +kernel)
theorem mz_mo_howMany : Cond.selects "TideTableModel" y_mo_howMany y_mo_howMany ∈ tt_good := List.mem_of_getElem? (i := 38) (by decide +kernel)
theorem ml_mo_267 : Cond.methodLink "TideTableModel" 267 y_mo_ofPorts ∈ tt_good := List.mem_of_getElem? (i := 930) (by decide +kernel)
theorem ml_mo_270 : Cond.methodLink "TideTableModel" 270 y_mo_greatest ∈ tt_good := List.mem_of_getElem? (i := 933) (by decide +kernel)
def y_mo_count : MethodName := ⟨"TideTableModel", "count", "(I)I"⟩
theorem mw_mo_count : tt_Mw y_mo_count prog_7_method_74_code 2 (some .int) 1 := ⟨List.mem_of_getElem? (i := 926) (by decide +kernel), List.mem_of_getElem? (i := 48) (by decide +kernel), by decide, by decide, by decide⟩
theorem mi_mo_count : Cond.instanceMethod y_mo_count ∈ tt_good := List.mem_of_getElem? (i := 924) (by decide +kernel)
theorem mz_mo_count : Cond.selects "TideTableModel" y_mo_count y_mo_count ∈ tt_good := List.mem_of_getElem? (i := 925) (by decide +kernel)
theorem ml_mo_273 : Cond.methodLink "TideTableModel" 273 y_mo_howMany ∈ tt_good := List.mem_of_getElem? (i := 927) (by decide +kernel)
def y_mo_mix : MethodName := ⟨"TideTableModel", "mix", "(J)V"⟩
theorem mw_mo_mix : tt_Mw y_mo_mix prog_7_method_75_code 3 none 1 := ⟨List.mem_of_getElem? (i := 944) (by decide +kernel), List.mem_of_getElem? (i := 48) (by decide +kernel), by decide, by decide, by decide⟩
theorem mi_mo_mix : Cond.instanceMethod y_mo_mix ∈ tt_good := List.mem_of_getElem? (i := 943) (by decide +kernel)
theorem mz_mo_mix : Cond.selects "TideTableModel" y_mo_mix y_mo_mix ∈ tt_good := List.mem_of_getElem? (i := 41) (by decide +kernel)
theorem k_mo_276 : Cond.constantLong "TideTableModel" 276 31 ∈ tt_good := List.mem_of_getElem? (i := 945) (by decide +kernel)
theorem fl_mo_278 : tt_FL "TideTableModel" 278 5 38 := ⟨_, _, _, rfl, by decide, rfl, List.mem_of_getElem? (i := 609) (by decide +kernel), rfl, i_Mo⟩
theorem fp_5_38 : tt_FP 5 38 .long := ⟨_, _, _, t_Mo, rfl, t_Mo_ok, n_Mo, rfl, by decide +kernel⟩
def y_mo_tickBy : MethodName := ⟨"TideTableModel", "tickBy", "(I)I"⟩
theorem mw_mo_tickBy : tt_Mw y_mo_tickBy prog_7_method_76_code 1 (some .int) 1 := ⟨List.mem_of_getElem? (i := 948) (by decide +kernel), List.mem_of_getElem? (i := 48) (by decide +kernel), by decide, by decide, by decide⟩
theorem ms_mo_tickBy : Cond.static y_mo_tickBy ∈ tt_good := List.mem_of_getElem? (i := 947) (by decide +kernel)
def y_mo_digest : MethodName := ⟨"TideTableModel", "digest", "()J"⟩
theorem mw_mo_digest : tt_Mw y_mo_digest prog_7_method_77_code 3 (some .long) 0 := ⟨List.mem_of_getElem? (i := 940) (by decide +kernel), List.mem_of_getElem? (i := 48) (by decide +kernel), by decide, by decide, by decide⟩
theorem mi_mo_digest : Cond.instanceMethod y_mo_digest ∈ tt_good := List.mem_of_getElem? (i := 938) (by decide +kernel)
theorem mz_mo_digest : Cond.selects "TideTableModel" y_mo_digest y_mo_digest ∈ tt_good := List.mem_of_getElem? (i := 939) (by decide +kernel)
theorem k_mo_281 : Cond.constantLong "TideTableModel" 281 1423 ∈ tt_good := List.mem_of_getElem? (i := 941) (by decide +kernel)
theorem ml_mo_283 : Cond.methodLink "TideTableModel" 283 y_mo_mix ∈ tt_good := List.mem_of_getElem? (i := 942) (by decide +kernel)
theorem ml_mo_287 : Cond.methodLink "TideTableModel" 287 y_mo_tickBy ∈ tt_good := List.mem_of_getElem? (i := 946) (by decide +kernel)
theorem k_in_265 : Cond.constant "java/lang/Integer" 265 1431655765 ∈ tt_good := List.mem_of_getElem? (i := 349) (by decide +kernel)
theorem k_in_266 : Cond.constant "java/lang/Integer" 266 858993459 ∈ tt_good := List.mem_of_getElem? (i := 350) (by decide +kernel)
theorem k_in_267 : Cond.constant "java/lang/Integer" 267 252645135 ∈ tt_good := List.mem_of_getElem? (i := 351) (by decide +kernel)
def y_ma_min : MethodName := ⟨"java/lang/Math", "min", "(II)I"⟩
theorem mw_ma_min : tt_Mw y_ma_min prog_10_method_69_code 2 (some .int) 2 := ⟨List.mem_of_getElem? (i := 250) (by decide +kernel), List.mem_of_getElem? (i := 51) (by decide +kernel), by decide, by decide, by decide⟩
theorem ms_ma_min : Cond.static y_ma_min ∈ tt_good := List.mem_of_getElem? (i := 249) (by decide +kernel)
def y_sr_length : MethodName := ⟨"java/lang/String", "length", "()I"⟩
theorem mw_sr_length : tt_Mw y_sr_length prog_11_method_54_code 1 (some .int) 0 := ⟨List.mem_of_getElem? (i := 234) (by decide +kernel), List.mem_of_getElem? (i := 49) (by decide +kernel), by decide, by decide, by decide⟩
theorem mi_sr_length : Cond.instanceMethod y_sr_length ∈ tt_good := List.mem_of_getElem? (i := 232) (by decide +kernel)
theorem mz_sr_length : Cond.selects "java/lang/String" y_sr_length y_sr_length ∈ tt_good := List.mem_of_getElem? (i := 233) (by decide +kernel)
def y_sr_coder : MethodName := ⟨"java/lang/String", "coder", "()B"⟩
theorem mw_sr_coder : tt_Mw y_sr_coder prog_11_method_152_code 1 (some .byte) 0 := ⟨List.mem_of_getElem? (i := 238) (by decide +kernel), List.mem_of_getElem? (i := 49) (by decide +kernel), by decide, by decide, by decide⟩
theorem mi_sr_coder : Cond.instanceMethod y_sr_coder ∈ tt_good := List.mem_of_getElem? (i := 236) (by decide +kernel)
theorem mz_sr_coder : Cond.selects "java/lang/String" y_sr_coder y_sr_coder ∈ tt_good := List.mem_of_getElem? (i := 237) (by decide +kernel)
theorem ml_sr_335 : Cond.methodLink "java/lang/String" 335 y_sr_coder ∈ tt_good := List.mem_of_getElem? (i := 235) (by decide +kernel)
def y_sr_indexOf2 : MethodName := ⟨"java/lang/String", "indexOf", "(II)I"⟩
theorem mw_sr_indexOf2 : tt_Mw y_sr_indexOf2 prog_11_method_80_code 3 (some .int) 2 := ⟨List.mem_of_getElem? (i := 225) (by decide +kernel), List.mem_of_getElem? (i := 49) (by decide +kernel), by decide, by decide, by decide⟩
theorem mi_sr_indexOf2 : Cond.instanceMethod y_sr_indexOf2 ∈ tt_good := List.mem_of_getElem? (i := 223) (by decide +kernel)
theorem mz_sr_indexOf2 : Cond.selects "java/lang/String" y_sr_indexOf2 y_sr_indexOf2 ∈ tt_good := List.mem_of_getElem? (i := 224) (by decide +kernel)
theorem ml_sr_633 : Cond.methodLink "java/lang/String" 633 y_sr_indexOf2 ∈ tt_good := List.mem_of_getElem? (i := 222) (by decide +kernel)
def y_sr_isLatin1 : MethodName := ⟨"java/lang/String", "isLatin1", "()Z"⟩
theorem mw_sr_isLatin1 : tt_Mw y_sr_isLatin1 prog_11_method_154_code 1 (some .boolean) 0 := ⟨List.mem_of_getElem? (i := 229) (by decide +kernel), List.mem_of_getElem? (i := 49) (by decide +kernel), by decide, by decide, by decide⟩
theorem mi_sr_isLatin1 : Cond.instanceMethod y_sr_isLatin1 ∈ tt_good := List.mem_of_getElem? (i := 227) (by decide +kernel)
theorem mz_sr_isLatin1 : Cond.selects "java/lang/String" y_sr_isLatin1 y_sr_isLatin1 ∈ tt_good := List.mem_of_getElem? (i := 228) (by decide +kernel)
theorem ml_sr_492 : Cond.methodLink "java/lang/String" 492 y_sr_isLatin1 ∈ tt_good := List.mem_of_getElem? (i := 226) (by decide +kernel)
theorem ml_sr_505 : Cond.methodLink "java/lang/String" 505 y_sr_length ∈ tt_good := List.mem_of_getElem? (i := 231) (by decide +kernel)
def y_sl_indexOf : MethodName := ⟨"java/lang/StringLatin1", "indexOf", "([BIII)I"⟩
theorem mw_sl_indexOf : tt_Mw y_sl_indexOf prog_12_method_22_code 4 (some .int) 4 := ⟨List.mem_of_getElem? (i := 241) (by decide +kernel), List.mem_of_getElem? (i := 50) (by decide +kernel), by decide, by decide, by decide⟩
theorem ms_sl_indexOf : Cond.static y_sl_indexOf ∈ tt_good := List.mem_of_getElem? (i := 240) (by decide +kernel)
theorem ml_sr_637 : Cond.methodLink "java/lang/String" 637 y_sl_indexOf ∈ tt_good := List.mem_of_getElem? (i := 239) (by decide +kernel)
def y_sr_checkBoundsBeginEnd : MethodName := ⟨"java/lang/String", "checkBoundsBeginEnd", "(III)V"⟩
theorem mw_sr_checkBoundsBeginEnd : tt_Mw y_sr_checkBoundsBeginEnd prog_11_method_158_code 3 none 3 := ⟨List.mem_of_getElem? (i := 271) (by decide +kernel), List.mem_of_getElem? (i := 49) (by decide +kernel), by decide, by decide, by decide⟩
theorem ms_sr_checkBoundsBeginEnd : Cond.static y_sr_checkBoundsBeginEnd ∈ tt_good := List.mem_of_getElem? (i := 270) (by decide +kernel)
def y_sl_canEncode : MethodName := ⟨"java/lang/StringLatin1", "canEncode", "(I)Z"⟩
theorem mw_sl_canEncode : tt_Mw y_sl_canEncode prog_12_method_4_code 1 (some .boolean) 1 := ⟨List.mem_of_getElem? (i := 244) (by decide +kernel), List.mem_of_getElem? (i := 50) (by decide +kernel), by decide, by decide, by decide⟩
theorem ms_sl_canEncode : Cond.static y_sl_canEncode ∈ tt_good := List.mem_of_getElem? (i := 243) (by decide +kernel)
theorem ml_sl_88 : Cond.methodLink "java/lang/StringLatin1" 88 y_sl_canEncode ∈ tt_good := List.mem_of_getElem? (i := 242) (by decide +kernel)
theorem ml_sl_92 : Cond.methodLink "java/lang/StringLatin1" 92 y_ma_max ∈ tt_good := List.mem_of_getElem? (i := 245) (by decide +kernel)
theorem ml_sl_38 : Cond.methodLink "java/lang/StringLatin1" 38 y_ma_min ∈ tt_good := List.mem_of_getElem? (i := 248) (by decide +kernel)
def y_sl_indexOfChar : MethodName := ⟨"java/lang/StringLatin1", "indexOfChar", "([BIII)I"⟩
theorem mw_sl_indexOfChar : tt_Mw y_sl_indexOfChar prog_12_method_23_code 6 (some .int) 4 := ⟨List.mem_of_getElem? (i := 253) (by decide +kernel), List.mem_of_getElem? (i := 50) (by decide +kernel), by decide, by decide, by decide⟩
theorem ms_sl_indexOfChar : Cond.static y_sl_indexOfChar ∈ tt_good := List.mem_of_getElem? (i := 252) (by decide +kernel)
theorem ml_sl_95 : Cond.methodLink "java/lang/StringLatin1" 95 y_sl_indexOfChar ∈ tt_good := List.mem_of_getElem? (i := 251) (by decide +kernel)
theorem ml_lw_9 : Cond.methodLink "TideTableLaw" 9 y_tb_init ∈ tt_good := List.mem_of_getElem? (i := 58) (by decide +kernel)
theorem ml_lw_12 : Cond.methodLink "TideTableLaw" 12 y_mo_init ∈ tt_good := List.mem_of_getElem? (i := 564) (by decide +kernel)
theorem ml_lw_13 : Cond.methodLink "TideTableLaw" 13 y_tb_letter ∈ tt_good := List.mem_of_getElem? (i := 190) (by decide +kernel)
theorem ml_lw_17 : Cond.methodLink "TideTableLaw" 17 y_mo_letter ∈ tt_good := List.mem_of_getElem? (i := 689) (by decide +kernel)
theorem ml_lw_18 : Cond.methodLink "TideTableLaw" 18 y_tb_blank ∈ tt_good := List.mem_of_getElem? (i := 197) (by decide +kernel)
theorem ml_lw_22 : Cond.methodLink "TideTableLaw" 22 y_mo_blank ∈ tt_good := List.mem_of_getElem? (i := 696) (by decide +kernel)
theorem ml_lw_23 : Cond.methodLink "TideTableLaw" 23 y_tb_fault ∈ tt_good := List.mem_of_getElem? (i := 201) (by decide +kernel)
theorem ml_lw_26 : Cond.methodLink "TideTableLaw" 26 y_mo_fault ∈ tt_good := List.mem_of_getElem? (i := 700) (by decide +kernel)
theorem ml_lw_27 : Cond.methodLink "TideTableLaw" 27 y_tb_ports ∈ tt_good := List.mem_of_getElem? (i := 300) (by decide +kernel)
theorem ml_lw_30 : Cond.methodLink "TideTableLaw" 30 y_mo_ports ∈ tt_good := List.mem_of_getElem? (i := 725) (by decide +kernel)
theorem ml_lw_31 : Cond.methodLink "TideTableLaw" 31 y_tb_port ∈ tt_good := List.mem_of_getElem? (i := 331) (by decide +kernel)
theorem ml_lw_35 : Cond.methodLink "TideTableLaw" 35 y_mo_port ∈ tt_good := List.mem_of_getElem? (i := 729) (by decide +kernel)
theorem ml_lw_36 : Cond.methodLink "TideTableLaw" 36 y_tb_wave ∈ tt_good := List.mem_of_getElem? (i := 353) (by decide +kernel)
theorem ml_lw_40 : Cond.methodLink "TideTableLaw" 40 y_mo_wave ∈ tt_good := List.mem_of_getElem? (i := 755) (by decide +kernel)
theorem ml_lw_41 : Cond.methodLink "TideTableLaw" 41 y_tb_as ∈ tt_good := List.mem_of_getElem? (i := 361) (by decide +kernel)
theorem ml_lw_44 : Cond.methodLink "TideTableLaw" 44 y_mo_as ∈ tt_good := List.mem_of_getElem? (i := 765) (by decide +kernel)
theorem ml_lw_45 : Cond.methodLink "TideTableLaw" 45 y_tb_round ∈ tt_good := List.mem_of_getElem? (i := 369) (by decide +kernel)
theorem ml_lw_48 : Cond.methodLink "TideTableLaw" 48 y_mo_round ∈ tt_good := List.mem_of_getElem? (i := 769) (by decide +kernel)
theorem ml_lw_49 : Cond.methodLink "TideTableLaw" 49 y_tb_sum ∈ tt_good := List.mem_of_getElem? (i := 377) (by decide +kernel)
theorem ml_lw_52 : Cond.methodLink "TideTableLaw" 52 y_mo_sum ∈ tt_good := List.mem_of_getElem? (i := 773) (by decide +kernel)
theorem ml_lw_53 : Cond.methodLink "TideTableLaw" 53 y_tb_height ∈ tt_good := List.mem_of_getElem? (i := 392) (by decide +kernel)
theorem ml_lw_56 : Cond.methodLink "TideTableLaw" 56 y_mo_height ∈ tt_good := List.mem_of_getElem? (i := 789) (by decide +kernel)
theorem ml_lw_57 : Cond.methodLink "TideTableLaw" 57 y_tb_tide ∈ tt_good := List.mem_of_getElem? (i := 413) (by decide +kernel)
theorem ml_lw_61 : Cond.methodLink "TideTableLaw" 61 y_mo_tide ∈ tt_good := List.mem_of_getElem? (i := 802) (by decide +kernel)
theorem ml_lw_62 : Cond.methodLink "TideTableLaw" 62 y_tb_gate ∈ tt_good := List.mem_of_getElem? (i := 431) (by decide +kernel)
theorem ml_lw_66 : Cond.methodLink "TideTableLaw" 66 y_mo_gate ∈ tt_good := List.mem_of_getElem? (i := 818) (by decide +kernel)
theorem ml_lw_67 : Cond.methodLink "TideTableLaw" 67 y_tb_dry ∈ tt_good := List.mem_of_getElem? (i := 441) (by decide +kernel)
theorem ml_lw_70 : Cond.methodLink "TideTableLaw" 70 y_mo_dry ∈ tt_good := List.mem_of_getElem? (i := 828) (by decide +kernel)
theorem ml_lw_71 : Cond.methodLink "TideTableLaw" 71 y_tb_stream ∈ tt_good := List.mem_of_getElem? (i := 445) (by decide +kernel)
theorem ml_lw_74 : Cond.methodLink "TideTableLaw" 74 y_mo_stream ∈ tt_good := List.mem_of_getElem? (i := 835) (by decide +kernel)
theorem ml_lw_75 : Cond.methodLink "TideTableLaw" 75 y_tb_slack ∈ tt_good := List.mem_of_getElem? (i := 449) (by decide +kernel)
theorem ml_lw_78 : Cond.methodLink "TideTableLaw" 78 y_mo_slack ∈ tt_good := List.mem_of_getElem? (i := 842) (by decide +kernel)
theorem ml_lw_79 : Cond.methodLink "TideTableLaw" 79 y_tb_trip ∈ tt_good := List.mem_of_getElem? (i := 453) (by decide +kernel)
theorem ml_lw_82 : Cond.methodLink "TideTableLaw" 82 y_mo_trip ∈ tt_good := List.mem_of_getElem? (i := 849) (by decide +kernel)
theorem ml_lw_83 : Cond.methodLink "TideTableLaw" 83 y_tb_leave ∈ tt_good := List.mem_of_getElem? (i := 461) (by decide +kernel)
theorem ml_lw_86 : Cond.methodLink "TideTableLaw" 86 y_mo_leave ∈ tt_good := List.mem_of_getElem? (i := 859) (by decide +kernel)
theorem ml_lw_87 : Cond.methodLink "TideTableLaw" 87 y_tb_mean ∈ tt_good := List.mem_of_getElem? (i := 465) (by decide +kernel)
theorem ml_lw_90 : Cond.methodLink "TideTableLaw" 90 y_mo_mean ∈ tt_good := List.mem_of_getElem? (i := 866) (by decide +kernel)
theorem ml_lw_91 : Cond.methodLink "TideTableLaw" 91 y_tb_mark ∈ tt_good := List.mem_of_getElem? (i := 469) (by decide +kernel)
theorem ml_lw_94 : Cond.methodLink "TideTableLaw" 94 y_mo_mark ∈ tt_good := List.mem_of_getElem? (i := 873) (by decide +kernel)
theorem ml_lw_95 : Cond.methodLink "TideTableLaw" 95 y_tb_ratio ∈ tt_good := List.mem_of_getElem? (i := 473) (by decide +kernel)
theorem ml_lw_98 : Cond.methodLink "TideTableLaw" 98 y_mo_ratio ∈ tt_good := List.mem_of_getElem? (i := 877) (by decide +kernel)
theorem ml_lw_99 : Cond.methodLink "TideTableLaw" 99 y_tb_add ∈ tt_good := List.mem_of_getElem? (i := 477) (by decide +kernel)
theorem ml_lw_102 : Cond.methodLink "TideTableLaw" 102 y_mo_add ∈ tt_good := List.mem_of_getElem? (i := 881) (by decide +kernel)
theorem ml_lw_103 : Cond.methodLink "TideTableLaw" 103 y_tb_take ∈ tt_good := List.mem_of_getElem? (i := 482) (by decide +kernel)
theorem ml_lw_106 : Cond.methodLink "TideTableLaw" 106 y_mo_take ∈ tt_good := List.mem_of_getElem? (i := 885) (by decide +kernel)
theorem ml_lw_107 : Cond.methodLink "TideTableLaw" 107 y_tb_be ∈ tt_good := List.mem_of_getElem? (i := 490) (by decide +kernel)
theorem ml_lw_110 : Cond.methodLink "TideTableLaw" 110 y_mo_be ∈ tt_good := List.mem_of_getElem? (i := 889) (by decide +kernel)
theorem ml_lw_111 : Cond.methodLink "TideTableLaw" 111 y_tb_see ∈ tt_good := List.mem_of_getElem? (i := 494) (by decide +kernel)
theorem ml_lw_115 : Cond.methodLink "TideTableLaw" 115 y_mo_see ∈ tt_good := List.mem_of_getElem? (i := 893) (by decide +kernel)
theorem ml_lw_116 : Cond.methodLink "TideTableLaw" 116 y_tb_forget ∈ tt_good := List.mem_of_getElem? (i := 498) (by decide +kernel)
theorem ml_lw_119 : Cond.methodLink "TideTableLaw" 119 y_mo_forget ∈ tt_good := List.mem_of_getElem? (i := 897) (by decide +kernel)
theorem ml_lw_120 : Cond.methodLink "TideTableLaw" 120 y_tb_drawn ∈ tt_good := List.mem_of_getElem? (i := 502) (by decide +kernel)
theorem ml_lw_123 : Cond.methodLink "TideTableLaw" 123 y_mo_drawn ∈ tt_good := List.mem_of_getElem? (i := 901) (by decide +kernel)
theorem ml_lw_124 : Cond.methodLink "TideTableLaw" 124 y_tb_image ∈ tt_good := List.mem_of_getElem? (i := 511) (by decide +kernel)
theorem ml_lw_127 : Cond.methodLink "TideTableLaw" 127 y_mo_image ∈ tt_good := List.mem_of_getElem? (i := 915) (by decide +kernel)
theorem ml_lw_128 : Cond.methodLink "TideTableLaw" 128 y_tb_restore ∈ tt_good := List.mem_of_getElem? (i := 525) (by decide +kernel)
theorem ml_lw_131 : Cond.methodLink "TideTableLaw" 131 y_mo_restore ∈ tt_good := List.mem_of_getElem? (i := 919) (by decide +kernel)
theorem ml_lw_132 : Cond.methodLink "TideTableLaw" 132 y_tb_count ∈ tt_good := List.mem_of_getElem? (i := 529) (by decide +kernel)
theorem ml_lw_135 : Cond.methodLink "TideTableLaw" 135 y_mo_count ∈ tt_good := List.mem_of_getElem? (i := 923) (by decide +kernel)
theorem ml_lw_136 : Cond.methodLink "TideTableLaw" 136 y_tb_digest ∈ tt_good := List.mem_of_getElem? (i := 546) (by decide +kernel)
theorem ml_lw_140 : Cond.methodLink "TideTableLaw" 140 y_mo_digest ∈ tt_good := List.mem_of_getElem? (i := 937) (by decide +kernel)
end
section
theorem d_pg_init_0 : decode prog_2_method_1_code 0 = .ok (.aload_n 0, 1) := by decide +kernel
theorem d_pg_init_1 : decode prog_2_method_1_code 1 = .ok (.invokespecial 3, 3) := by decide +kernel
theorem d_pg_init_4 : decode prog_2_method_1_code 4 = .ok (.aload_n 0, 1) := by decide +kernel
theorem d_pg_init_5 : decode prog_2_method_1_code 5 = .ok (.bipush 96, 2) := by decide +kernel
theorem d_pg_init_7 : decode prog_2_method_1_code 7 = .ok (.newarray .int, 2) := by decide +kernel
theorem d_pg_init_9 : decode prog_2_method_1_code 9 = .ok (.putfield 9, 3) := by decide +kernel
theorem d_pg_init_12 : decode prog_2_method_1_code 12 = .ok (.return_, 1) := by decide +kernel
theorem d_pg_firstWrong_0 : decode prog_2_method_2_code 0 = .ok (.aload_n 0, 1) := by decide +kernel
theorem d_pg_firstWrong_1 : decode prog_2_method_2_code 1 = .ok (.iconst 0, 1) := by decide +kernel
theorem d_pg_firstWrong_2 : decode prog_2_method_2_code 2 = .ok (.putfield 15, 3) := by decide +kernel
theorem d_pg_firstWrong_5 : decode prog_2_method_2_code 5 = .ok (.aload_n 0, 1) := by decide +kernel
theorem d_pg_firstWrong_6 : decode prog_2_method_2_code 6 = .ok (.iconst 0, 1) := by decide +kernel
theorem d_pg_firstWrong_7 : decode prog_2_method_2_code 7 = .ok (.putfield 19, 3) := by decide +kernel
theorem d_pg_firstWrong_10 : decode prog_2_method_2_code 10 = .ok (.iconst 0, 1) := by decide +kernel
theorem d_pg_firstWrong_11 : decode prog_2_method_2_code 11 = .ok (.istore_n 1, 1) := by decide +kernel
theorem d_pg_firstWrong_12 : decode prog_2_method_2_code 12 = .ok (.iload_n 1, 1) := by decide +kernel
theorem d_pg_firstWrong_13 : decode prog_2_method_2_code 13 = .ok (.aload_n 0, 1) := by decide +kernel
theorem d_pg_firstWrong_14 : decode prog_2_method_2_code 14 = .ok (.getfield 22, 3) := by decide +kernel
theorem d_pg_firstWrong_17 : decode prog_2_method_2_code 17 = .ok (.if_icmp .ge 68, 3) := by decide +kernel
theorem d_pg_firstWrong_20 : decode prog_2_method_2_code 20 = .ok (.aload_n 0, 1) := by decide +kernel
theorem d_pg_firstWrong_21 : decode prog_2_method_2_code 21 = .ok (.getfield 9, 3) := by decide +kernel
theorem d_pg_firstWrong_24 : decode prog_2_method_2_code 24 = .ok (.iload_n 1, 1) := by decide +kernel
theorem d_pg_firstWrong_25 : decode prog_2_method_2_code 25 = .ok (.iaload, 1) := by decide +kernel
theorem d_pg_firstWrong_26 : decode prog_2_method_2_code 26 = .ok (.bipush 44, 2) := by decide +kernel
theorem d_pg_firstWrong_28 : decode prog_2_method_2_code 28 = .ok (.if_icmp .ne 41, 3) := by decide +kernel
theorem d_pg_firstWrong_31 : decode prog_2_method_2_code 31 = .ok (.aload_n 0, 1) := by decide +kernel
theorem d_pg_firstWrong_32 : decode prog_2_method_2_code 32 = .ok (.getfield 19, 3) := by decide +kernel
theorem d_pg_firstWrong_35 : decode prog_2_method_2_code 35 = .ok (.iconst 1, 1) := by decide +kernel
theorem d_pg_firstWrong_36 : decode prog_2_method_2_code 36 = .ok (.iadd, 1) := by decide +kernel
theorem d_pg_firstWrong_37 : decode prog_2_method_2_code 37 = .ok (.iconst 4, 1) := by decide +kernel
theorem d_pg_firstWrong_38 : decode prog_2_method_2_code 38 = .ok (.if_icmp .ge 31, 3) := by decide +kernel
theorem d_pg_firstWrong_41 : decode prog_2_method_2_code 41 = .ok (.aload_n 0, 1) := by decide +kernel
theorem d_pg_firstWrong_42 : decode prog_2_method_2_code 42 = .ok (.iload_n 1, 1) := by decide +kernel
theorem d_pg_firstWrong_43 : decode prog_2_method_2_code 43 = .ok (.invokevirtual 25, 3) := by decide +kernel
theorem d_pg_firstWrong_46 : decode prog_2_method_2_code 46 = .ok (.ifCond .eq 23, 3) := by decide +kernel
theorem d_pg_firstWrong_49 : decode prog_2_method_2_code 49 = .ok (.aload_n 0, 1) := by decide +kernel
theorem d_pg_firstWrong_50 : decode prog_2_method_2_code 50 = .ok (.iload_n 1, 1) := by decide +kernel
theorem d_pg_firstWrong_51 : decode prog_2_method_2_code 51 = .ok (.iconst 1, 1) := by decide +kernel
theorem d_pg_firstWrong_52 : decode prog_2_method_2_code 52 = .ok (.iadd, 1) := by decide +kernel
theorem d_pg_firstWrong_53 : decode prog_2_method_2_code 53 = .ok (.putfield 15, 3) := by decide +kernel
theorem d_pg_firstWrong_56 : decode prog_2_method_2_code 56 = .ok (.aload_n 0, 1) := by decide +kernel
theorem d_pg_firstWrong_57 : decode prog_2_method_2_code 57 = .ok (.dup, 1) := by decide +kernel
theorem d_pg_firstWrong_58 : decode prog_2_method_2_code 58 = .ok (.getfield 19, 3) := by decide +kernel
theorem d_pg_firstWrong_61 : decode prog_2_method_2_code 61 = .ok (.iconst 1, 1) := by decide +kernel
theorem d_pg_firstWrong_62 : decode prog_2_method_2_code 62 = .ok (.iadd, 1) := by decide +kernel
theorem d_pg_firstWrong_63 : decode prog_2_method_2_code 63 = .ok (.putfield 19, 3) := by decide +kernel
theorem d_pg_firstWrong_66 : decode prog_2_method_2_code 66 = .ok (.goto 13, 3) := by decide +kernel
theorem d_pg_firstWrong_69 : decode prog_2_method_2_code 69 = .ok (.aload_n 0, 1) := by decide +kernel
theorem d_pg_firstWrong_70 : decode prog_2_method_2_code 70 = .ok (.iload_n 1, 1) := by decide +kernel
theorem d_pg_firstWrong_71 : decode prog_2_method_2_code 71 = .ok (.invokevirtual 29, 3) := by decide +kernel
theorem d_pg_firstWrong_74 : decode prog_2_method_2_code 74 = .ok (.ifCond .ne 5, 3) := by decide +kernel
theorem d_pg_firstWrong_77 : decode prog_2_method_2_code 77 = .ok (.iload_n 1, 1) := by decide +kernel
theorem d_pg_firstWrong_78 : decode prog_2_method_2_code 78 = .ok (.ireturn, 1) := by decide +kernel
theorem d_pg_firstWrong_79 : decode prog_2_method_2_code 79 = .ok (.iinc 1 1, 3) := by decide +kernel
theorem d_pg_firstWrong_82 : decode prog_2_method_2_code 82 = .ok (.goto (-70), 3) := by decide +kernel
theorem d_pg_firstWrong_85 : decode prog_2_method_2_code 85 = .ok (.aload_n 0, 1) := by decide +kernel
theorem d_pg_firstWrong_86 : decode prog_2_method_2_code 86 = .ok (.getfield 22, 3) := by decide +kernel
theorem d_pg_firstWrong_89 : decode prog_2_method_2_code 89 = .ok (.ireturn, 1) := by decide +kernel
theorem d_pg_isWhole_0 : decode prog_2_method_3_code 0 = .ok (.aload_n 0, 1) := by decide +kernel
theorem d_pg_isWhole_1 : decode prog_2_method_3_code 1 = .ok (.invokevirtual 32, 3) := by decide +kernel
theorem d_pg_isWhole_4 : decode prog_2_method_3_code 4 = .ok (.aload_n 0, 1) := by decide +kernel
theorem d_pg_isWhole_5 : decode prog_2_method_3_code 5 = .ok (.getfield 22, 3) := by decide +kernel
theorem d_pg_isWhole_8 : decode prog_2_method_3_code 8 = .ok (.if_icmp .ne 18, 3) := by decide +kernel
theorem d_pg_isWhole_11 : decode prog_2_method_3_code 11 = .ok (.aload_n 0, 1) := by decide +kernel
theorem d_pg_isWhole_12 : decode prog_2_method_3_code 12 = .ok (.aload_n 0, 1) := by decide +kernel
theorem d_pg_isWhole_13 : decode prog_2_method_3_code 13 = .ok (.getfield 22, 3) := by decide +kernel
theorem d_pg_isWhole_16 : decode prog_2_method_3_code 16 = .ok (.invokevirtual 25, 3) := by decide +kernel
theorem d_pg_isWhole_19 : decode prog_2_method_3_code 19 = .ok (.ifCond .eq 7, 3) := by decide +kernel
theorem d_pg_isWhole_22 : decode prog_2_method_3_code 22 = .ok (.iconst 1, 1) := by decide +kernel
theorem d_pg_isWhole_23 : decode prog_2_method_3_code 23 = .ok (.goto 4, 3) := by decide +kernel
theorem d_pg_isWhole_26 : decode prog_2_method_3_code 26 = .ok (.iconst 0, 1) := by decide +kernel
theorem d_pg_isWhole_27 : decode prog_2_method_3_code 27 = .ok (.ireturn, 1) := by decide +kernel
theorem d_pg_canEndAhead_0 : decode prog_2_method_4_code 0 = .ok (.iload_n 1, 1) := by decide +kernel
theorem d_pg_canEndAhead_1 : decode prog_2_method_4_code 1 = .ok (.aload_n 0, 1) := by decide +kernel
theorem d_pg_canEndAhead_2 : decode prog_2_method_4_code 2 = .ok (.getfield 15, 3) := by decide +kernel
theorem d_pg_canEndAhead_5 : decode prog_2_method_4_code 5 = .ok (.isub, 1) := by decide +kernel
theorem d_pg_canEndAhead_6 : decode prog_2_method_4_code 6 = .ok (.istore_n 2, 1) := by decide +kernel
theorem d_pg_canEndAhead_7 : decode prog_2_method_4_code 7 = .ok (.iload_n 2, 1) := by decide +kernel
theorem d_pg_canEndAhead_8 : decode prog_2_method_4_code 8 = .ok (.bipush 7, 2) := by decide +kernel
theorem d_pg_canEndAhead_10 : decode prog_2_method_4_code 10 = .ok (.if_icmp .ge 5, 3) := by decide +kernel
theorem d_pg_canEndAhead_13 : decode prog_2_method_4_code 13 = .ok (.iconst 0, 1) := by decide +kernel
theorem d_pg_canEndAhead_14 : decode prog_2_method_4_code 14 = .ok (.ireturn, 1) := by decide +kernel
theorem d_pg_canEndAhead_15 : decode prog_2_method_4_code 15 = .ok (.aload_n 0, 1) := by decide +kernel
theorem d_pg_canEndAhead_16 : decode prog_2_method_4_code 16 = .ok (.getfield 9, 3) := by decide +kernel
theorem d_pg_canEndAhead_19 : decode prog_2_method_4_code 19 = .ok (.aload_n 0, 1) := by decide +kernel
theorem d_pg_canEndAhead_20 : decode prog_2_method_4_code 20 = .ok (.getfield 15, 3) := by decide +kernel
theorem d_pg_canEndAhead_23 : decode prog_2_method_4_code 23 = .ok (.iaload, 1) := by decide +kernel
theorem d_pg_canEndAhead_24 : decode prog_2_method_4_code 24 = .ok (.bipush 102, 2) := by decide +kernel
theorem d_pg_canEndAhead_26 : decode prog_2_method_4_code 26 = .ok (.if_icmp .ne 15, 3) := by decide +kernel
theorem d_pg_canEndAhead_29 : decode prog_2_method_4_code 29 = .ok (.iload_n 2, 1) := by decide +kernel
theorem d_pg_canEndAhead_30 : decode prog_2_method_4_code 30 = .ok (.bipush 7, 2) := by decide +kernel
theorem d_pg_canEndAhead_32 : decode prog_2_method_4_code 32 = .ok (.if_icmp .ne 7, 3) := by decide +kernel
theorem d_pg_canEndAhead_35 : decode prog_2_method_4_code 35 = .ok (.iconst 1, 1) := by decide +kernel
theorem d_pg_canEndAhead_36 : decode prog_2_method_4_code 36 = .ok (.goto 4, 3) := by decide +kernel
theorem d_pg_canEndAhead_39 : decode prog_2_method_4_code 39 = .ok (.iconst 0, 1) := by decide +kernel
theorem d_pg_canEndAhead_40 : decode prog_2_method_4_code 40 = .ok (.ireturn, 1) := by decide +kernel
theorem d_pg_canEndAhead_41 : decode prog_2_method_4_code 41 = .ok (.iload_n 2, 1) := by decide +kernel
theorem d_pg_canEndAhead_42 : decode prog_2_method_4_code 42 = .ok (.iconst 5, 1) := by decide +kernel
theorem d_pg_canEndAhead_43 : decode prog_2_method_4_code 43 = .ok (.isub, 1) := by decide +kernel
theorem d_pg_canEndAhead_44 : decode prog_2_method_4_code 44 = .ok (.bipush 6, 2) := by decide +kernel
theorem d_pg_canEndAhead_46 : decode prog_2_method_4_code 46 = .ok (.irem, 1) := by decide +kernel
theorem d_pg_canEndAhead_47 : decode prog_2_method_4_code 47 = .ok (.ifCond .ne 7, 3) := by decide +kernel
theorem d_pg_canEndAhead_50 : decode prog_2_method_4_code 50 = .ok (.iconst 1, 1) := by decide +kernel
theorem d_pg_canEndAhead_51 : decode prog_2_method_4_code 51 = .ok (.goto 4, 3) := by decide +kernel
theorem d_pg_canEndAhead_54 : decode prog_2_method_4_code 54 = .ok (.iconst 0, 1) := by decide +kernel
theorem d_pg_canEndAhead_55 : decode prog_2_method_4_code 55 = .ok (.ireturn, 1) := by decide +kernel
theorem d_pg_fits_0 : decode prog_2_method_5_code 0 = .ok (.aload_n 0, 1) := by decide +kernel
theorem d_pg_fits_1 : decode prog_2_method_5_code 1 = .ok (.getfield 9, 3) := by decide +kernel
theorem d_pg_fits_4 : decode prog_2_method_5_code 4 = .ok (.iload_n 1, 1) := by decide +kernel
theorem d_pg_fits_5 : decode prog_2_method_5_code 5 = .ok (.iaload, 1) := by decide +kernel
theorem d_pg_fits_6 : decode prog_2_method_5_code 6 = .ok (.istore_n 2, 1) := by decide +kernel
theorem d_pg_fits_7 : decode prog_2_method_5_code 7 = .ok (.iload_n 1, 1) := by decide +kernel
theorem d_pg_fits_8 : decode prog_2_method_5_code 8 = .ok (.aload_n 0, 1) := by decide +kernel
theorem d_pg_fits_9 : decode prog_2_method_5_code 9 = .ok (.getfield 15, 3) := by decide +kernel
theorem d_pg_fits_12 : decode prog_2_method_5_code 12 = .ok (.if_icmp .ne 37, 3) := by decide +kernel
theorem d_pg_fits_15 : decode prog_2_method_5_code 15 = .ok (.iload_n 2, 1) := by decide +kernel
theorem d_pg_fits_16 : decode prog_2_method_5_code 16 = .ok (.bipush 102, 2) := by decide +kernel
theorem d_pg_fits_18 : decode prog_2_method_5_code 18 = .ok (.if_icmp .ne 18, 3) := by decide +kernel
theorem d_pg_fits_21 : decode prog_2_method_5_code 21 = .ok (.aload_n 0, 1) := by decide +kernel
theorem d_pg_fits_22 : decode prog_2_method_5_code 22 = .ok (.getfield 19, 3) := by decide +kernel
theorem d_pg_fits_25 : decode prog_2_method_5_code 25 = .ok (.ifCond .le 7, 3) := by decide +kernel
theorem d_pg_fits_28 : decode prog_2_method_5_code 28 = .ok (.iconst 1, 1) := by decide +kernel
theorem d_pg_fits_29 : decode prog_2_method_5_code 29 = .ok (.goto 19, 3) := by decide +kernel
theorem d_pg_fits_32 : decode prog_2_method_5_code 32 = .ok (.iconst 0, 1) := by decide +kernel
theorem d_pg_fits_33 : decode prog_2_method_5_code 33 = .ok (.goto 15, 3) := by decide +kernel
theorem d_pg_fits_36 : decode prog_2_method_5_code 36 = .ok (.iload_n 2, 1) := by decide +kernel
theorem d_pg_fits_37 : decode prog_2_method_5_code 37 = .ok (.invokestatic 36, 3) := by decide +kernel
theorem d_pg_fits_40 : decode prog_2_method_5_code 40 = .ok (.ifCond .lt 7, 3) := by decide +kernel
theorem d_pg_fits_43 : decode prog_2_method_5_code 43 = .ok (.iconst 1, 1) := by decide +kernel
theorem d_pg_fits_44 : decode prog_2_method_5_code 44 = .ok (.goto 4, 3) := by decide +kernel
theorem d_pg_fits_47 : decode prog_2_method_5_code 47 = .ok (.iconst 0, 1) := by decide +kernel
theorem d_pg_fits_48 : decode prog_2_method_5_code 48 = .ok (.ireturn, 1) := by decide +kernel
theorem d_pg_fits_49 : decode prog_2_method_5_code 49 = .ok (.aload_n 0, 1) := by decide +kernel
theorem d_pg_fits_50 : decode prog_2_method_5_code 50 = .ok (.getfield 9, 3) := by decide +kernel
theorem d_pg_fits_53 : decode prog_2_method_5_code 53 = .ok (.aload_n 0, 1) := by decide +kernel
theorem d_pg_fits_54 : decode prog_2_method_5_code 54 = .ok (.getfield 15, 3) := by decide +kernel
theorem d_pg_fits_57 : decode prog_2_method_5_code 57 = .ok (.iaload, 1) := by decide +kernel
theorem d_pg_fits_58 : decode prog_2_method_5_code 58 = .ok (.bipush 102, 2) := by decide +kernel
theorem d_pg_fits_60 : decode prog_2_method_5_code 60 = .ok (.if_icmp .ne 7, 3) := by decide +kernel
theorem d_pg_fits_63 : decode prog_2_method_5_code 63 = .ok (.iconst 1, 1) := by decide +kernel
theorem d_pg_fits_64 : decode prog_2_method_5_code 64 = .ok (.goto 4, 3) := by decide +kernel
theorem d_pg_fits_67 : decode prog_2_method_5_code 67 = .ok (.iconst 0, 1) := by decide +kernel
theorem d_pg_fits_68 : decode prog_2_method_5_code 68 = .ok (.istore_n 3, 1) := by decide +kernel
theorem d_pg_fits_69 : decode prog_2_method_5_code 69 = .ok (.iload_n 1, 1) := by decide +kernel
theorem d_pg_fits_70 : decode prog_2_method_5_code 70 = .ok (.aload_n 0, 1) := by decide +kernel
theorem d_pg_fits_71 : decode prog_2_method_5_code 71 = .ok (.getfield 15, 3) := by decide +kernel
theorem d_pg_fits_74 : decode prog_2_method_5_code 74 = .ok (.isub, 1) := by decide +kernel
theorem d_pg_fits_75 : decode prog_2_method_5_code 75 = .ok (.iconst 1, 1) := by decide +kernel
theorem d_pg_fits_76 : decode prog_2_method_5_code 76 = .ok (.isub, 1) := by decide +kernel
theorem d_pg_fits_77 : decode prog_2_method_5_code 77 = .ok (.istore 4, 2) := by decide +kernel
theorem d_pg_fits_79 : decode prog_2_method_5_code 79 = .ok (.iload 4, 2) := by decide +kernel
theorem d_pg_fits_81 : decode prog_2_method_5_code 81 = .ok (.iconst 1, 1) := by decide +kernel
theorem d_pg_fits_82 : decode prog_2_method_5_code 82 = .ok (.iadd, 1) := by decide +kernel
theorem d_pg_fits_83 : decode prog_2_method_5_code 83 = .ok (.iload_n 3, 1) := by decide +kernel
theorem d_pg_fits_84 : decode prog_2_method_5_code 84 = .ok (.ifCond .eq 8, 3) := by decide +kernel
theorem d_pg_fits_87 : decode prog_2_method_5_code 87 = .ok (.bipush 7, 2) := by decide +kernel
theorem d_pg_fits_89 : decode prog_2_method_5_code 89 = .ok (.goto 5, 3) := by decide +kernel
theorem d_pg_fits_92 : decode prog_2_method_5_code 92 = .ok (.bipush 23, 2) := by decide +kernel
theorem d_pg_fits_94 : decode prog_2_method_5_code 94 = .ok (.if_icmp .ge 14, 3) := by decide +kernel
theorem d_pg_fits_97 : decode prog_2_method_5_code 97 = .ok (.iload_n 2, 1) := by decide +kernel
theorem d_pg_fits_98 : decode prog_2_method_5_code 98 = .ok (.bipush 48, 2) := by decide +kernel
theorem d_pg_fits_100 : decode prog_2_method_5_code 100 = .ok (.bipush 57, 2) := by decide +kernel
theorem d_pg_fits_102 : decode prog_2_method_5_code 102 = .ok (.invokestatic 40, 3) := by decide +kernel
theorem d_pg_fits_105 : decode prog_2_method_5_code 105 = .ok (.ifCond .ne 5, 3) := by decide +kernel
theorem d_pg_fits_108 : decode prog_2_method_5_code 108 = .ok (.iconst 0, 1) := by decide +kernel
theorem d_pg_fits_109 : decode prog_2_method_5_code 109 = .ok (.ireturn, 1) := by decide +kernel
theorem d_pg_fits_110 : decode prog_2_method_5_code 110 = .ok (.iload_n 3, 1) := by decide +kernel
theorem d_pg_fits_111 : decode prog_2_method_5_code 111 = .ok (.ifCond .ne 9, 3) := by decide +kernel
theorem d_pg_fits_114 : decode prog_2_method_5_code 114 = .ok (.iload 4, 2) := by decide +kernel
theorem d_pg_fits_116 : decode prog_2_method_5_code 116 = .ok (.iconst 4, 1) := by decide +kernel
theorem d_pg_fits_117 : decode prog_2_method_5_code 117 = .ok (.if_icmp .ge 9, 3) := by decide +kernel
theorem d_pg_fits_120 : decode prog_2_method_5_code 120 = .ok (.sipush (-10001), 3) := by decide +kernel
theorem d_pg_fits_123 : decode prog_2_method_5_code 123 = .ok (.goto 11, 3) := by decide +kernel
theorem d_pg_fits_126 : decode prog_2_method_5_code 126 = .ok (.iload 4, 2) := by decide +kernel
theorem d_pg_fits_128 : decode prog_2_method_5_code 128 = .ok (.iconst 4, 1) := by decide +kernel
theorem d_pg_fits_129 : decode prog_2_method_5_code 129 = .ok (.isub, 1) := by decide +kernel
theorem d_pg_fits_130 : decode prog_2_method_5_code 130 = .ok (.iconst 2, 1) := by decide +kernel
theorem d_pg_fits_131 : decode prog_2_method_5_code 131 = .ok (.idiv, 1) := by decide +kernel
theorem d_pg_fits_132 : decode prog_2_method_5_code 132 = .ok (.iconst 3, 1) := by decide +kernel
theorem d_pg_fits_133 : decode prog_2_method_5_code 133 = .ok (.irem, 1) := by decide +kernel
theorem d_pg_fits_134 : decode prog_2_method_5_code 134 = .ok (.istore 5, 2) := by decide +kernel
theorem d_pg_fits_136 : decode prog_2_method_5_code 136 = .ok (.iload 5, 2) := by decide +kernel
theorem d_pg_fits_138 : decode prog_2_method_5_code 138 = .ok (.ifCond .ne 7, 3) := by decide +kernel
theorem d_pg_fits_141 : decode prog_2_method_5_code 141 = .ok (.iconst 1, 1) := by decide +kernel
theorem d_pg_fits_142 : decode prog_2_method_5_code 142 = .ok (.goto 4, 3) := by decide +kernel
theorem d_pg_fits_145 : decode prog_2_method_5_code 145 = .ok (.iconst 0, 1) := by decide +kernel
theorem d_pg_fits_146 : decode prog_2_method_5_code 146 = .ok (.istore 6, 2) := by decide +kernel
theorem d_pg_fits_148 : decode prog_2_method_5_code 148 = .ok (.iload 5, 2) := by decide +kernel
theorem d_pg_fits_150 : decode prog_2_method_5_code 150 = .ok (.iconst 2, 1) := by decide +kernel
theorem d_pg_fits_151 : decode prog_2_method_5_code 151 = .ok (.if_icmp .ne 8, 3) := by decide +kernel
theorem d_pg_fits_154 : decode prog_2_method_5_code 154 = .ok (.bipush 63, 2) := by decide +kernel
theorem d_pg_fits_156 : decode prog_2_method_5_code 156 = .ok (.goto 5, 3) := by decide +kernel
theorem d_pg_fits_159 : decode prog_2_method_5_code 159 = .ok (.bipush 99, 2) := by decide +kernel
theorem d_pg_fits_161 : decode prog_2_method_5_code 161 = .ok (.istore 7, 2) := by decide +kernel
theorem d_pg_fits_163 : decode prog_2_method_5_code 163 = .ok (.iload_n 2, 1) := by decide +kernel
theorem d_pg_fits_164 : decode prog_2_method_5_code 164 = .ok (.bipush 48, 2) := by decide +kernel
theorem d_pg_fits_166 : decode prog_2_method_5_code 166 = .ok (.isub, 1) := by decide +kernel
theorem d_pg_fits_167 : decode prog_2_method_5_code 167 = .ok (.istore 8, 2) := by decide +kernel
theorem d_pg_fits_169 : decode prog_2_method_5_code 169 = .ok (.iload 4, 2) := by decide +kernel
theorem d_pg_fits_171 : decode prog_2_method_5_code 171 = .ok (.iconst 2, 1) := by decide +kernel
theorem d_pg_fits_172 : decode prog_2_method_5_code 172 = .ok (.irem, 1) := by decide +kernel
theorem d_pg_fits_173 : decode prog_2_method_5_code 173 = .ok (.ifCond .ne 19, 3) := by decide +kernel
theorem d_pg_fits_176 : decode prog_2_method_5_code 176 = .ok (.bipush 10, 2) := by decide +kernel
theorem d_pg_fits_178 : decode prog_2_method_5_code 178 = .ok (.iload 8, 2) := by decide +kernel
theorem d_pg_fits_180 : decode prog_2_method_5_code 180 = .ok (.imul, 1) := by decide +kernel
theorem d_pg_fits_181 : decode prog_2_method_5_code 181 = .ok (.iload 7, 2) := by decide +kernel
theorem d_pg_fits_183 : decode prog_2_method_5_code 183 = .ok (.if_icmp .gt 7, 3) := by decide +kernel
theorem d_pg_fits_186 : decode prog_2_method_5_code 186 = .ok (.iconst 1, 1) := by decide +kernel
theorem d_pg_fits_187 : decode prog_2_method_5_code 187 = .ok (.goto 4, 3) := by decide +kernel
theorem d_pg_fits_190 : decode prog_2_method_5_code 190 = .ok (.iconst 0, 1) := by decide +kernel
theorem d_pg_fits_191 : decode prog_2_method_5_code 191 = .ok (.ireturn, 1) := by decide +kernel
theorem d_pg_fits_192 : decode prog_2_method_5_code 192 = .ok (.bipush 10, 2) := by decide +kernel
theorem d_pg_fits_194 : decode prog_2_method_5_code 194 = .ok (.aload_n 0, 1) := by decide +kernel
theorem d_pg_fits_195 : decode prog_2_method_5_code 195 = .ok (.getfield 9, 3) := by decide +kernel
theorem d_pg_fits_198 : decode prog_2_method_5_code 198 = .ok (.iload_n 1, 1) := by decide +kernel
theorem d_pg_fits_199 : decode prog_2_method_5_code 199 = .ok (.iconst 1, 1) := by decide +kernel
theorem d_pg_fits_200 : decode prog_2_method_5_code 200 = .ok (.isub, 1) := by decide +kernel
theorem d_pg_fits_201 : decode prog_2_method_5_code 201 = .ok (.iaload, 1) := by decide +kernel
theorem d_pg_fits_202 : decode prog_2_method_5_code 202 = .ok (.bipush 48, 2) := by decide +kernel
theorem d_pg_fits_204 : decode prog_2_method_5_code 204 = .ok (.isub, 1) := by decide +kernel
theorem d_pg_fits_205 : decode prog_2_method_5_code 205 = .ok (.imul, 1) := by decide +kernel
theorem d_pg_fits_206 : decode prog_2_method_5_code 206 = .ok (.iload 8, 2) := by decide +kernel
theorem d_pg_fits_208 : decode prog_2_method_5_code 208 = .ok (.iadd, 1) := by decide +kernel
theorem d_pg_fits_209 : decode prog_2_method_5_code 209 = .ok (.iload 6, 2) := by decide +kernel
theorem d_pg_fits_211 : decode prog_2_method_5_code 211 = .ok (.iload 7, 2) := by decide +kernel
theorem d_pg_fits_213 : decode prog_2_method_5_code 213 = .ok (.invokestatic 40, 3) := by decide +kernel
theorem d_pg_fits_216 : decode prog_2_method_5_code 216 = .ok (.ireturn, 1) := by decide +kernel
theorem d_pg_kindOf_0 : decode prog_2_method_6_code 0 = .ok (.ldc 44, 2) := by decide +kernel
theorem d_pg_kindOf_2 : decode prog_2_method_6_code 2 = .ok (.iload_n 0, 1) := by decide +kernel
theorem d_pg_kindOf_3 : decode prog_2_method_6_code 3 = .ok (.i2c, 1) := by decide +kernel
theorem d_pg_kindOf_4 : decode prog_2_method_6_code 4 = .ok (.invokevirtual 46, 3) := by decide +kernel
theorem d_pg_kindOf_7 : decode prog_2_method_6_code 7 = .ok (.ireturn, 1) := by decide +kernel
theorem d_pg_readInto_0 : decode prog_2_method_7_code 0 = .ok (.aload_n 1, 1) := by decide +kernel
theorem d_pg_readInto_1 : decode prog_2_method_7_code 1 = .ok (.iconst 0, 1) := by decide +kernel
theorem d_pg_readInto_2 : decode prog_2_method_7_code 2 = .ok (.putfield 51, 3) := by decide +kernel
theorem d_pg_readInto_5 : decode prog_2_method_7_code 5 = .ok (.aload_n 1, 1) := by decide +kernel
theorem d_pg_readInto_6 : decode prog_2_method_7_code 6 = .ok (.iconst 0, 1) := by decide +kernel
theorem d_pg_readInto_7 : decode prog_2_method_7_code 7 = .ok (.putfield 54, 3) := by decide +kernel
theorem d_pg_readInto_10 : decode prog_2_method_7_code 10 = .ok (.iconst 0, 1) := by decide +kernel
theorem d_pg_readInto_11 : decode prog_2_method_7_code 11 = .ok (.istore_n 2, 1) := by decide +kernel
theorem d_pg_readInto_12 : decode prog_2_method_7_code 12 = .ok (.iload_n 2, 1) := by decide +kernel
theorem d_pg_readInto_13 : decode prog_2_method_7_code 13 = .ok (.aload_n 0, 1) := by decide +kernel
theorem d_pg_readInto_14 : decode prog_2_method_7_code 14 = .ok (.getfield 22, 3) := by decide +kernel
theorem d_pg_readInto_17 : decode prog_2_method_7_code 17 = .ok (.if_icmp .ge 41, 3) := by decide +kernel
theorem d_pg_readInto_20 : decode prog_2_method_7_code 20 = .ok (.aload_n 1, 1) := by decide +kernel
theorem d_pg_readInto_21 : decode prog_2_method_7_code 21 = .ok (.getfield 51, 3) := by decide +kernel
theorem d_pg_readInto_24 : decode prog_2_method_7_code 24 = .ok (.iconst 4, 1) := by decide +kernel
theorem d_pg_readInto_25 : decode prog_2_method_7_code 25 = .ok (.if_icmp .ge 33, 3) := by decide +kernel
theorem d_pg_readInto_28 : decode prog_2_method_7_code 28 = .ok (.aload_n 0, 1) := by decide +kernel
theorem d_pg_readInto_29 : decode prog_2_method_7_code 29 = .ok (.iload_n 2, 1) := by decide +kernel
theorem d_pg_readInto_30 : decode prog_2_method_7_code 30 = .ok (.aload_n 1, 1) := by decide +kernel
theorem d_pg_readInto_31 : decode prog_2_method_7_code 31 = .ok (.getfield 57, 3) := by decide +kernel
theorem d_pg_readInto_34 : decode prog_2_method_7_code 34 = .ok (.aload_n 1, 1) := by decide +kernel
theorem d_pg_readInto_35 : decode prog_2_method_7_code 35 = .ok (.getfield 51, 3) := by decide +kernel
theorem d_pg_readInto_38 : decode prog_2_method_7_code 38 = .ok (.aaload, 1) := by decide +kernel
theorem d_pg_readInto_39 : decode prog_2_method_7_code 39 = .ok (.invokevirtual 61, 3) := by decide +kernel
theorem d_pg_readInto_42 : decode prog_2_method_7_code 42 = .ok (.iconst 1, 1) := by decide +kernel
theorem d_pg_readInto_43 : decode prog_2_method_7_code 43 = .ok (.iadd, 1) := by decide +kernel
theorem d_pg_readInto_44 : decode prog_2_method_7_code 44 = .ok (.istore_n 2, 1) := by decide +kernel
theorem d_pg_readInto_45 : decode prog_2_method_7_code 45 = .ok (.aload_n 1, 1) := by decide +kernel
theorem d_pg_readInto_46 : decode prog_2_method_7_code 46 = .ok (.dup, 1) := by decide +kernel
theorem d_pg_readInto_47 : decode prog_2_method_7_code 47 = .ok (.getfield 51, 3) := by decide +kernel
theorem d_pg_readInto_50 : decode prog_2_method_7_code 50 = .ok (.iconst 1, 1) := by decide +kernel
theorem d_pg_readInto_51 : decode prog_2_method_7_code 51 = .ok (.iadd, 1) := by decide +kernel
theorem d_pg_readInto_52 : decode prog_2_method_7_code 52 = .ok (.putfield 51, 3) := by decide +kernel
theorem d_pg_readInto_55 : decode prog_2_method_7_code 55 = .ok (.goto (-43), 3) := by decide +kernel
theorem d_pg_readInto_58 : decode prog_2_method_7_code 58 = .ok (.return_, 1) := by decide +kernel
theorem d_pg_readPort_0 : decode prog_2_method_8_code 0 = .ok (.aload_n 0, 1) := by decide +kernel
theorem d_pg_readPort_1 : decode prog_2_method_8_code 1 = .ok (.getfield 9, 3) := by decide +kernel
theorem d_pg_readPort_4 : decode prog_2_method_8_code 4 = .ok (.iload_n 1, 1) := by decide +kernel
theorem d_pg_readPort_5 : decode prog_2_method_8_code 5 = .ok (.iaload, 1) := by decide +kernel
theorem d_pg_readPort_6 : decode prog_2_method_8_code 6 = .ok (.invokestatic 36, 3) := by decide +kernel
theorem d_pg_readPort_9 : decode prog_2_method_8_code 9 = .ok (.istore_n 3, 1) := by decide +kernel
theorem d_pg_readPort_10 : decode prog_2_method_8_code 10 = .ok (.iload_n 1, 1) := by decide +kernel
theorem d_pg_readPort_11 : decode prog_2_method_8_code 11 = .ok (.iconst 5, 1) := by decide +kernel
theorem d_pg_readPort_12 : decode prog_2_method_8_code 12 = .ok (.iadd, 1) := by decide +kernel
theorem d_pg_readPort_13 : decode prog_2_method_8_code 13 = .ok (.istore 4, 2) := by decide +kernel
theorem d_pg_readPort_15 : decode prog_2_method_8_code 15 = .ok (.iload_n 3, 1) := by decide +kernel
theorem d_pg_readPort_16 : decode prog_2_method_8_code 16 = .ok (.iconst 3, 1) := by decide +kernel
theorem d_pg_readPort_17 : decode prog_2_method_8_code 17 = .ok (.if_icmp .ne 33, 3) := by decide +kernel
theorem d_pg_readPort_20 : decode prog_2_method_8_code 20 = .ok (.aload_n 2, 1) := by decide +kernel
theorem d_pg_readPort_21 : decode prog_2_method_8_code 21 = .ok (.iload_n 3, 1) := by decide +kernel
theorem d_pg_readPort_22 : decode prog_2_method_8_code 22 = .ok (.aload_n 0, 1) := by decide +kernel
theorem d_pg_readPort_23 : decode prog_2_method_8_code 23 = .ok (.iload_n 1, 1) := by decide +kernel
theorem d_pg_readPort_24 : decode prog_2_method_8_code 24 = .ok (.iconst 1, 1) := by decide +kernel
theorem d_pg_readPort_25 : decode prog_2_method_8_code 25 = .ok (.iadd, 1) := by decide +kernel
theorem d_pg_readPort_26 : decode prog_2_method_8_code 26 = .ok (.invokevirtual 65, 3) := by decide +kernel
theorem d_pg_readPort_29 : decode prog_2_method_8_code 29 = .ok (.aload_n 0, 1) := by decide +kernel
theorem d_pg_readPort_30 : decode prog_2_method_8_code 30 = .ok (.iload_n 1, 1) := by decide +kernel
theorem d_pg_readPort_31 : decode prog_2_method_8_code 31 = .ok (.iconst 3, 1) := by decide +kernel
theorem d_pg_readPort_32 : decode prog_2_method_8_code 32 = .ok (.iadd, 1) := by decide +kernel
theorem d_pg_readPort_33 : decode prog_2_method_8_code 33 = .ok (.invokevirtual 65, 3) := by decide +kernel
theorem d_pg_readPort_36 : decode prog_2_method_8_code 36 = .ok (.aload_n 0, 1) := by decide +kernel
theorem d_pg_readPort_37 : decode prog_2_method_8_code 37 = .ok (.iload 4, 2) := by decide +kernel
theorem d_pg_readPort_39 : decode prog_2_method_8_code 39 = .ok (.invokevirtual 65, 3) := by decide +kernel
theorem d_pg_readPort_42 : decode prog_2_method_8_code 42 = .ok (.invokevirtual 68, 3) := by decide +kernel
theorem d_pg_readPort_45 : decode prog_2_method_8_code 45 = .ok (.iload_n 1, 1) := by decide +kernel
theorem d_pg_readPort_46 : decode prog_2_method_8_code 46 = .ok (.bipush 7, 2) := by decide +kernel
theorem d_pg_readPort_48 : decode prog_2_method_8_code 48 = .ok (.iadd, 1) := by decide +kernel
theorem d_pg_readPort_49 : decode prog_2_method_8_code 49 = .ok (.ireturn, 1) := by decide +kernel
theorem d_pg_readPort_50 : decode prog_2_method_8_code 50 = .ok (.aload_n 2, 1) := by decide +kernel
theorem d_pg_readPort_51 : decode prog_2_method_8_code 51 = .ok (.iload_n 3, 1) := by decide +kernel
theorem d_pg_readPort_52 : decode prog_2_method_8_code 52 = .ok (.aload_n 0, 1) := by decide +kernel
theorem d_pg_readPort_53 : decode prog_2_method_8_code 53 = .ok (.iload_n 1, 1) := by decide +kernel
theorem d_pg_readPort_54 : decode prog_2_method_8_code 54 = .ok (.iconst 1, 1) := by decide +kernel
theorem d_pg_readPort_55 : decode prog_2_method_8_code 55 = .ok (.iadd, 1) := by decide +kernel
theorem d_pg_readPort_56 : decode prog_2_method_8_code 56 = .ok (.invokevirtual 65, 3) := by decide +kernel
theorem d_pg_readPort_59 : decode prog_2_method_8_code 59 = .ok (.aload_n 0, 1) := by decide +kernel
theorem d_pg_readPort_60 : decode prog_2_method_8_code 60 = .ok (.iload_n 1, 1) := by decide +kernel
theorem d_pg_readPort_61 : decode prog_2_method_8_code 61 = .ok (.iconst 3, 1) := by decide +kernel
theorem d_pg_readPort_62 : decode prog_2_method_8_code 62 = .ok (.iadd, 1) := by decide +kernel
theorem d_pg_readPort_63 : decode prog_2_method_8_code 63 = .ok (.invokevirtual 65, 3) := by decide +kernel
theorem d_pg_readPort_66 : decode prog_2_method_8_code 66 = .ok (.bipush 50, 2) := by decide +kernel
theorem d_pg_readPort_68 : decode prog_2_method_8_code 68 = .ok (.invokevirtual 68, 3) := by decide +kernel
theorem d_pg_readPort_71 : decode prog_2_method_8_code 71 = .ok (.iload 4, 2) := by decide +kernel
theorem d_pg_readPort_73 : decode prog_2_method_8_code 73 = .ok (.aload_n 0, 1) := by decide +kernel
theorem d_pg_readPort_74 : decode prog_2_method_8_code 74 = .ok (.getfield 22, 3) := by decide +kernel
theorem d_pg_readPort_77 : decode prog_2_method_8_code 77 = .ok (.if_icmp .ge 47, 3) := by decide +kernel
theorem d_pg_readPort_80 : decode prog_2_method_8_code 80 = .ok (.aload_n 0, 1) := by decide +kernel
theorem d_pg_readPort_81 : decode prog_2_method_8_code 81 = .ok (.getfield 9, 3) := by decide +kernel
theorem d_pg_readPort_84 : decode prog_2_method_8_code 84 = .ok (.iload 4, 2) := by decide +kernel
theorem d_pg_readPort_86 : decode prog_2_method_8_code 86 = .ok (.iaload, 1) := by decide +kernel
theorem d_pg_readPort_87 : decode prog_2_method_8_code 87 = .ok (.bipush 44, 2) := by decide +kernel
theorem d_pg_readPort_89 : decode prog_2_method_8_code 89 = .ok (.if_icmp .eq 35, 3) := by decide +kernel
theorem d_pg_readPort_92 : decode prog_2_method_8_code 92 = .ok (.aload_n 2, 1) := by decide +kernel
theorem d_pg_readPort_93 : decode prog_2_method_8_code 93 = .ok (.aload_n 0, 1) := by decide +kernel
theorem d_pg_readPort_94 : decode prog_2_method_8_code 94 = .ok (.iload 4, 2) := by decide +kernel
theorem d_pg_readPort_96 : decode prog_2_method_8_code 96 = .ok (.invokevirtual 65, 3) := by decide +kernel
theorem d_pg_readPort_99 : decode prog_2_method_8_code 99 = .ok (.aload_n 0, 1) := by decide +kernel
theorem d_pg_readPort_100 : decode prog_2_method_8_code 100 = .ok (.iload 4, 2) := by decide +kernel
theorem d_pg_readPort_102 : decode prog_2_method_8_code 102 = .ok (.iconst 2, 1) := by decide +kernel
theorem d_pg_readPort_103 : decode prog_2_method_8_code 103 = .ok (.iadd, 1) := by decide +kernel
theorem d_pg_readPort_104 : decode prog_2_method_8_code 104 = .ok (.invokevirtual 65, 3) := by decide +kernel
theorem d_pg_readPort_107 : decode prog_2_method_8_code 107 = .ok (.aload_n 0, 1) := by decide +kernel
theorem d_pg_readPort_108 : decode prog_2_method_8_code 108 = .ok (.iload 4, 2) := by decide +kernel
theorem d_pg_readPort_110 : decode prog_2_method_8_code 110 = .ok (.iconst 4, 1) := by decide +kernel
theorem d_pg_readPort_111 : decode prog_2_method_8_code 111 = .ok (.iadd, 1) := by decide +kernel
theorem d_pg_readPort_112 : decode prog_2_method_8_code 112 = .ok (.invokevirtual 65, 3) := by decide +kernel
theorem d_pg_readPort_115 : decode prog_2_method_8_code 115 = .ok (.invokevirtual 74, 3) := by decide +kernel
theorem d_pg_readPort_118 : decode prog_2_method_8_code 118 = .ok (.iinc 4 6, 3) := by decide +kernel
theorem d_pg_readPort_121 : decode prog_2_method_8_code 121 = .ok (.goto (-50), 3) := by decide +kernel
theorem d_pg_readPort_124 : decode prog_2_method_8_code 124 = .ok (.iload 4, 2) := by decide +kernel
theorem d_pg_readPort_126 : decode prog_2_method_8_code 126 = .ok (.ireturn, 1) := by decide +kernel
theorem d_pg_numberAt_0 : decode prog_2_method_9_code 0 = .ok (.iload_n 1, 1) := by decide +kernel
theorem d_pg_numberAt_1 : decode prog_2_method_9_code 1 = .ok (.ifCond .lt 13, 3) := by decide +kernel
theorem d_pg_numberAt_4 : decode prog_2_method_9_code 4 = .ok (.iload_n 1, 1) := by decide +kernel
theorem d_pg_numberAt_5 : decode prog_2_method_9_code 5 = .ok (.iconst 1, 1) := by decide +kernel
theorem d_pg_numberAt_6 : decode prog_2_method_9_code 6 = .ok (.iadd, 1) := by decide +kernel
theorem d_pg_numberAt_7 : decode prog_2_method_9_code 7 = .ok (.aload_n 0, 1) := by decide +kernel
theorem d_pg_numberAt_8 : decode prog_2_method_9_code 8 = .ok (.getfield 22, 3) := by decide +kernel
theorem d_pg_numberAt_11 : decode prog_2_method_9_code 11 = .ok (.if_icmp .lt 5, 3) := by decide +kernel
theorem d_pg_numberAt_14 : decode prog_2_method_9_code 14 = .ok (.iconst 0, 1) := by decide +kernel
theorem d_pg_numberAt_15 : decode prog_2_method_9_code 15 = .ok (.ireturn, 1) := by decide +kernel
theorem d_pg_numberAt_16 : decode prog_2_method_9_code 16 = .ok (.bipush 10, 2) := by decide +kernel
theorem d_pg_numberAt_18 : decode prog_2_method_9_code 18 = .ok (.aload_n 0, 1) := by decide +kernel
theorem d_pg_numberAt_19 : decode prog_2_method_9_code 19 = .ok (.getfield 9, 3) := by decide +kernel
theorem d_pg_numberAt_22 : decode prog_2_method_9_code 22 = .ok (.iload_n 1, 1) := by decide +kernel
theorem d_pg_numberAt_23 : decode prog_2_method_9_code 23 = .ok (.iaload, 1) := by decide +kernel
theorem d_pg_numberAt_24 : decode prog_2_method_9_code 24 = .ok (.bipush 48, 2) := by decide +kernel
theorem d_pg_numberAt_26 : decode prog_2_method_9_code 26 = .ok (.isub, 1) := by decide +kernel
theorem d_pg_numberAt_27 : decode prog_2_method_9_code 27 = .ok (.imul, 1) := by decide +kernel
theorem d_pg_numberAt_28 : decode prog_2_method_9_code 28 = .ok (.aload_n 0, 1) := by decide +kernel
theorem d_pg_numberAt_29 : decode prog_2_method_9_code 29 = .ok (.getfield 9, 3) := by decide +kernel
theorem d_pg_numberAt_32 : decode prog_2_method_9_code 32 = .ok (.iload_n 1, 1) := by decide +kernel
theorem d_pg_numberAt_33 : decode prog_2_method_9_code 33 = .ok (.iconst 1, 1) := by decide +kernel
theorem d_pg_numberAt_34 : decode prog_2_method_9_code 34 = .ok (.iadd, 1) := by decide +kernel
theorem d_pg_numberAt_35 : decode prog_2_method_9_code 35 = .ok (.iaload, 1) := by decide +kernel
theorem d_pg_numberAt_36 : decode prog_2_method_9_code 36 = .ok (.iadd, 1) := by decide +kernel
theorem d_pg_numberAt_37 : decode prog_2_method_9_code 37 = .ok (.bipush 48, 2) := by decide +kernel
theorem d_pg_numberAt_39 : decode prog_2_method_9_code 39 = .ok (.isub, 1) := by decide +kernel
theorem d_pg_numberAt_40 : decode prog_2_method_9_code 40 = .ok (.ireturn, 1) := by decide +kernel
theorem d_po_init_0 : decode prog_3_method_1_code 0 = .ok (.aload_n 0, 1) := by decide +kernel
theorem d_po_init_1 : decode prog_3_method_1_code 1 = .ok (.invokespecial 3, 3) := by decide +kernel
theorem d_po_init_4 : decode prog_3_method_1_code 4 = .ok (.aload_n 0, 1) := by decide +kernel
theorem d_po_init_5 : decode prog_3_method_1_code 5 = .ok (.bipush 31, 2) := by decide +kernel
theorem d_po_init_7 : decode prog_3_method_1_code 7 = .ok (.putfield 9, 3) := by decide +kernel
theorem d_po_init_10 : decode prog_3_method_1_code 10 = .ok (.aload_n 0, 1) := by decide +kernel
theorem d_po_init_11 : decode prog_3_method_1_code 11 = .ok (.iconst 3, 1) := by decide +kernel
theorem d_po_init_12 : decode prog_3_method_1_code 12 = .ok (.anewarray 15, 3) := by decide +kernel
theorem d_po_init_15 : decode prog_3_method_1_code 15 = .ok (.putfield 17, 3) := by decide +kernel
theorem d_po_init_18 : decode prog_3_method_1_code 18 = .ok (.iconst 0, 1) := by decide +kernel
theorem d_po_init_19 : decode prog_3_method_1_code 19 = .ok (.istore_n 1, 1) := by decide +kernel
theorem d_po_init_20 : decode prog_3_method_1_code 20 = .ok (.iload_n 1, 1) := by decide +kernel
theorem d_po_init_21 : decode prog_3_method_1_code 21 = .ok (.iconst 3, 1) := by decide +kernel
theorem d_po_init_22 : decode prog_3_method_1_code 22 = .ok (.if_icmp .ge 22, 3) := by decide +kernel
theorem d_po_init_25 : decode prog_3_method_1_code 25 = .ok (.aload_n 0, 1) := by decide +kernel
theorem d_po_init_26 : decode prog_3_method_1_code 26 = .ok (.getfield 17, 3) := by decide +kernel
theorem d_po_init_29 : decode prog_3_method_1_code 29 = .ok (.iload_n 1, 1) := by decide +kernel
theorem d_po_init_30 : decode prog_3_method_1_code 30 = .ok (.new 15, 3) := by decide +kernel
theorem d_po_init_33 : decode prog_3_method_1_code 33 = .ok (.dup, 1) := by decide +kernel
theorem d_po_init_34 : decode prog_3_method_1_code 34 = .ok (.invokespecial 21, 3) := by decide +kernel
theorem d_po_init_37 : decode prog_3_method_1_code 37 = .ok (.aastore, 1) := by decide +kernel
theorem d_po_init_38 : decode prog_3_method_1_code 38 = .ok (.iinc 1 1, 3) := by decide +kernel
theorem d_po_init_41 : decode prog_3_method_1_code 41 = .ok (.goto (-21), 3) := by decide +kernel
theorem d_po_init_44 : decode prog_3_method_1_code 44 = .ok (.return_, 1) := by decide +kernel
theorem d_po_begin_0 : decode prog_3_method_2_code 0 = .ok (.aload_n 0, 1) := by decide +kernel
theorem d_po_begin_1 : decode prog_3_method_2_code 1 = .ok (.iload_n 1, 1) := by decide +kernel
theorem d_po_begin_2 : decode prog_3_method_2_code 2 = .ok (.putfield 22, 3) := by decide +kernel
theorem d_po_begin_5 : decode prog_3_method_2_code 5 = .ok (.aload_n 0, 1) := by decide +kernel
theorem d_po_begin_6 : decode prog_3_method_2_code 6 = .ok (.iload_n 2, 1) := by decide +kernel
theorem d_po_begin_7 : decode prog_3_method_2_code 7 = .ok (.putfield 25, 3) := by decide +kernel
theorem d_po_begin_10 : decode prog_3_method_2_code 10 = .ok (.aload_n 0, 1) := by decide +kernel
theorem d_po_begin_11 : decode prog_3_method_2_code 11 = .ok (.iload_n 3, 1) := by decide +kernel
theorem d_po_begin_12 : decode prog_3_method_2_code 12 = .ok (.putfield 28, 3) := by decide +kernel
theorem d_po_begin_15 : decode prog_3_method_2_code 15 = .ok (.aload_n 0, 1) := by decide +kernel
theorem d_po_begin_16 : decode prog_3_method_2_code 16 = .ok (.iload 4, 2) := by decide +kernel
theorem d_po_begin_18 : decode prog_3_method_2_code 18 = .ok (.putfield 31, 3) := by decide +kernel
theorem d_po_begin_21 : decode prog_3_method_2_code 21 = .ok (.aload_n 0, 1) := by decide +kernel
theorem d_po_begin_22 : decode prog_3_method_2_code 22 = .ok (.bipush 31, 2) := by decide +kernel
theorem d_po_begin_24 : decode prog_3_method_2_code 24 = .ok (.putfield 9, 3) := by decide +kernel
theorem d_po_begin_27 : decode prog_3_method_2_code 27 = .ok (.aload_n 0, 1) := by decide +kernel
theorem d_po_begin_28 : decode prog_3_method_2_code 28 = .ok (.iconst 0, 1) := by decide +kernel
theorem d_po_begin_29 : decode prog_3_method_2_code 29 = .ok (.putfield 34, 3) := by decide +kernel
theorem d_po_begin_32 : decode prog_3_method_2_code 32 = .ok (.return_, 1) := by decide +kernel
theorem d_po_become_0 : decode prog_3_method_3_code 0 = .ok (.aload_n 0, 1) := by decide +kernel
theorem d_po_become_1 : decode prog_3_method_3_code 1 = .ok (.aload_n 1, 1) := by decide +kernel
theorem d_po_become_2 : decode prog_3_method_3_code 2 = .ok (.getfield 22, 3) := by decide +kernel
theorem d_po_become_5 : decode prog_3_method_3_code 5 = .ok (.aload_n 1, 1) := by decide +kernel
theorem d_po_become_6 : decode prog_3_method_3_code 6 = .ok (.getfield 25, 3) := by decide +kernel
theorem d_po_become_9 : decode prog_3_method_3_code 9 = .ok (.aload_n 1, 1) := by decide +kernel
theorem d_po_become_10 : decode prog_3_method_3_code 10 = .ok (.getfield 28, 3) := by decide +kernel
theorem d_po_become_13 : decode prog_3_method_3_code 13 = .ok (.aload_n 1, 1) := by decide +kernel
theorem d_po_become_14 : decode prog_3_method_3_code 14 = .ok (.getfield 31, 3) := by decide +kernel
theorem d_po_become_17 : decode prog_3_method_3_code 17 = .ok (.invokevirtual 37, 3) := by decide +kernel
theorem d_po_become_20 : decode prog_3_method_3_code 20 = .ok (.aload_n 0, 1) := by decide +kernel
theorem d_po_become_21 : decode prog_3_method_3_code 21 = .ok (.aload_n 1, 1) := by decide +kernel
theorem d_po_become_22 : decode prog_3_method_3_code 22 = .ok (.getfield 9, 3) := by decide +kernel
theorem d_po_become_25 : decode prog_3_method_3_code 25 = .ok (.putfield 9, 3) := by decide +kernel
theorem d_po_become_28 : decode prog_3_method_3_code 28 = .ok (.iconst 0, 1) := by decide +kernel
theorem d_po_become_29 : decode prog_3_method_3_code 29 = .ok (.istore_n 2, 1) := by decide +kernel
theorem d_po_become_30 : decode prog_3_method_3_code 30 = .ok (.iload_n 2, 1) := by decide +kernel
theorem d_po_become_31 : decode prog_3_method_3_code 31 = .ok (.aload_n 1, 1) := by decide +kernel
theorem d_po_become_32 : decode prog_3_method_3_code 32 = .ok (.getfield 34, 3) := by decide +kernel
theorem d_po_become_35 : decode prog_3_method_3_code 35 = .ok (.if_icmp .ge 32, 3) := by decide +kernel
theorem d_po_become_38 : decode prog_3_method_3_code 38 = .ok (.aload_n 1, 1) := by decide +kernel
theorem d_po_become_39 : decode prog_3_method_3_code 39 = .ok (.getfield 17, 3) := by decide +kernel
theorem d_po_become_42 : decode prog_3_method_3_code 42 = .ok (.iload_n 2, 1) := by decide +kernel
theorem d_po_become_43 : decode prog_3_method_3_code 43 = .ok (.aaload, 1) := by decide +kernel
theorem d_po_become_44 : decode prog_3_method_3_code 44 = .ok (.astore_n 3, 1) := by decide +kernel
theorem d_po_become_45 : decode prog_3_method_3_code 45 = .ok (.aload_n 0, 1) := by decide +kernel
theorem d_po_become_46 : decode prog_3_method_3_code 46 = .ok (.aload_n 3, 1) := by decide +kernel
theorem d_po_become_47 : decode prog_3_method_3_code 47 = .ok (.getfield 41, 3) := by decide +kernel
theorem d_po_become_50 : decode prog_3_method_3_code 50 = .ok (.aload_n 3, 1) := by decide +kernel
theorem d_po_become_51 : decode prog_3_method_3_code 51 = .ok (.getfield 44, 3) := by decide +kernel
theorem d_po_become_54 : decode prog_3_method_3_code 54 = .ok (.aload_n 3, 1) := by decide +kernel
theorem d_po_become_55 : decode prog_3_method_3_code 55 = .ok (.getfield 47, 3) := by decide +kernel
theorem d_po_become_58 : decode prog_3_method_3_code 58 = .ok (.invokevirtual 50, 3) := by decide +kernel
theorem d_po_become_61 : decode prog_3_method_3_code 61 = .ok (.iinc 2 1, 3) := by decide +kernel
theorem d_po_become_64 : decode prog_3_method_3_code 64 = .ok (.goto (-34), 3) := by decide +kernel
theorem d_po_become_67 : decode prog_3_method_3_code 67 = .ok (.return_, 1) := by decide +kernel
theorem d_po_has_0 : decode prog_3_method_4_code 0 = .ok (.iload_n 1, 1) := by decide +kernel
theorem d_po_has_1 : decode prog_3_method_4_code 1 = .ok (.ifCond .lt 15, 3) := by decide +kernel
theorem d_po_has_4 : decode prog_3_method_4_code 4 = .ok (.iload_n 1, 1) := by decide +kernel
theorem d_po_has_5 : decode prog_3_method_4_code 5 = .ok (.aload_n 0, 1) := by decide +kernel
theorem d_po_has_6 : decode prog_3_method_4_code 6 = .ok (.getfield 34, 3) := by decide +kernel
theorem d_po_has_9 : decode prog_3_method_4_code 9 = .ok (.if_icmp .ge 7, 3) := by decide +kernel
theorem d_po_has_12 : decode prog_3_method_4_code 12 = .ok (.iconst 1, 1) := by decide +kernel
theorem d_po_has_13 : decode prog_3_method_4_code 13 = .ok (.goto 4, 3) := by decide +kernel
theorem d_po_has_16 : decode prog_3_method_4_code 16 = .ok (.iconst 0, 1) := by decide +kernel
theorem d_po_has_17 : decode prog_3_method_4_code 17 = .ok (.ireturn, 1) := by decide +kernel
theorem d_po_isA_0 : decode prog_3_method_5_code 0 = .ok (.iload_n 1, 1) := by decide +kernel
theorem d_po_isA_1 : decode prog_3_method_5_code 1 = .ok (.ifCond .eq 24, 3) := by decide +kernel
theorem d_po_isA_4 : decode prog_3_method_5_code 4 = .ok (.iload_n 1, 1) := by decide +kernel
theorem d_po_isA_5 : decode prog_3_method_5_code 5 = .ok (.aload_n 0, 1) := by decide +kernel
theorem d_po_isA_6 : decode prog_3_method_5_code 6 = .ok (.getfield 22, 3) := by decide +kernel
theorem d_po_isA_9 : decode prog_3_method_5_code 9 = .ok (.if_icmp .eq 16, 3) := by decide +kernel
theorem d_po_isA_12 : decode prog_3_method_5_code 12 = .ok (.iload_n 1, 1) := by decide +kernel
theorem d_po_isA_13 : decode prog_3_method_5_code 13 = .ok (.iconst 1, 1) := by decide +kernel
theorem d_po_isA_14 : decode prog_3_method_5_code 14 = .ok (.if_icmp .ne 15, 3) := by decide +kernel
theorem d_po_isA_17 : decode prog_3_method_5_code 17 = .ok (.aload_n 0, 1) := by decide +kernel
theorem d_po_isA_18 : decode prog_3_method_5_code 18 = .ok (.getfield 22, 3) := by decide +kernel
theorem d_po_isA_21 : decode prog_3_method_5_code 21 = .ok (.iconst 2, 1) := by decide +kernel
theorem d_po_isA_22 : decode prog_3_method_5_code 22 = .ok (.if_icmp .ne 7, 3) := by decide +kernel
theorem d_po_isA_25 : decode prog_3_method_5_code 25 = .ok (.iconst 1, 1) := by decide +kernel
theorem d_po_isA_26 : decode prog_3_method_5_code 26 = .ok (.goto 4, 3) := by decide +kernel
theorem d_po_isA_29 : decode prog_3_method_5_code 29 = .ok (.iconst 0, 1) := by decide +kernel
theorem d_po_isA_30 : decode prog_3_method_5_code 30 = .ok (.ireturn, 1) := by decide +kernel
theorem d_po_putWave_0 : decode prog_3_method_6_code 0 = .ok (.aload_n 0, 1) := by decide +kernel
theorem d_po_putWave_1 : decode prog_3_method_6_code 1 = .ok (.getfield 34, 3) := by decide +kernel
theorem d_po_putWave_4 : decode prog_3_method_6_code 4 = .ok (.iconst 3, 1) := by decide +kernel
theorem d_po_putWave_5 : decode prog_3_method_6_code 5 = .ok (.if_icmp .ge 28, 3) := by decide +kernel
theorem d_po_putWave_8 : decode prog_3_method_6_code 8 = .ok (.aload_n 0, 1) := by decide +kernel
theorem d_po_putWave_9 : decode prog_3_method_6_code 9 = .ok (.getfield 17, 3) := by decide +kernel
theorem d_po_putWave_12 : decode prog_3_method_6_code 12 = .ok (.aload_n 0, 1) := by decide +kernel
theorem d_po_putWave_13 : decode prog_3_method_6_code 13 = .ok (.getfield 34, 3) := by decide +kernel
theorem d_po_putWave_16 : decode prog_3_method_6_code 16 = .ok (.aaload, 1) := by decide +kernel
theorem d_po_putWave_17 : decode prog_3_method_6_code 17 = .ok (.iload_n 1, 1) := by decide +kernel
theorem d_po_putWave_18 : decode prog_3_method_6_code 18 = .ok (.iload_n 2, 1) := by decide +kernel
theorem d_po_putWave_19 : decode prog_3_method_6_code 19 = .ok (.iload_n 3, 1) := by decide +kernel
theorem d_po_putWave_20 : decode prog_3_method_6_code 20 = .ok (.invokevirtual 54, 3) := by decide +kernel
theorem d_po_putWave_23 : decode prog_3_method_6_code 23 = .ok (.aload_n 0, 1) := by decide +kernel
theorem d_po_putWave_24 : decode prog_3_method_6_code 24 = .ok (.dup, 1) := by decide +kernel
theorem d_po_putWave_25 : decode prog_3_method_6_code 25 = .ok (.getfield 34, 3) := by decide +kernel
theorem d_po_putWave_28 : decode prog_3_method_6_code 28 = .ok (.iconst 1, 1) := by decide +kernel
theorem d_po_putWave_29 : decode prog_3_method_6_code 29 = .ok (.iadd, 1) := by decide +kernel
theorem d_po_putWave_30 : decode prog_3_method_6_code 30 = .ok (.putfield 34, 3) := by decide +kernel
theorem d_po_putWave_33 : decode prog_3_method_6_code 33 = .ok (.return_, 1) := by decide +kernel
theorem d_po_dropWave_0 : decode prog_3_method_7_code 0 = .ok (.iload_n 1, 1) := by decide +kernel
theorem d_po_dropWave_1 : decode prog_3_method_7_code 1 = .ok (.istore_n 2, 1) := by decide +kernel
theorem d_po_dropWave_2 : decode prog_3_method_7_code 2 = .ok (.iload_n 2, 1) := by decide +kernel
theorem d_po_dropWave_3 : decode prog_3_method_7_code 3 = .ok (.iconst 1, 1) := by decide +kernel
theorem d_po_dropWave_4 : decode prog_3_method_7_code 4 = .ok (.iadd, 1) := by decide +kernel
theorem d_po_dropWave_5 : decode prog_3_method_7_code 5 = .ok (.aload_n 0, 1) := by decide +kernel
theorem d_po_dropWave_6 : decode prog_3_method_7_code 6 = .ok (.getfield 34, 3) := by decide +kernel
theorem d_po_dropWave_9 : decode prog_3_method_7_code 9 = .ok (.if_icmp .ge 39, 3) := by decide +kernel
theorem d_po_dropWave_12 : decode prog_3_method_7_code 12 = .ok (.aload_n 0, 1) := by decide +kernel
theorem d_po_dropWave_13 : decode prog_3_method_7_code 13 = .ok (.getfield 17, 3) := by decide +kernel
theorem d_po_dropWave_16 : decode prog_3_method_7_code 16 = .ok (.iload_n 2, 1) := by decide +kernel
theorem d_po_dropWave_17 : decode prog_3_method_7_code 17 = .ok (.iconst 1, 1) := by decide +kernel
theorem d_po_dropWave_18 : decode prog_3_method_7_code 18 = .ok (.iadd, 1) := by decide +kernel
theorem d_po_dropWave_19 : decode prog_3_method_7_code 19 = .ok (.aaload, 1) := by decide +kernel
theorem d_po_dropWave_20 : decode prog_3_method_7_code 20 = .ok (.astore_n 3, 1) := by decide +kernel
theorem d_po_dropWave_21 : decode prog_3_method_7_code 21 = .ok (.aload_n 0, 1) := by decide +kernel
theorem d_po_dropWave_22 : decode prog_3_method_7_code 22 = .ok (.getfield 17, 3) := by decide +kernel
theorem d_po_dropWave_25 : decode prog_3_method_7_code 25 = .ok (.iload_n 2, 1) := by decide +kernel
theorem d_po_dropWave_26 : decode prog_3_method_7_code 26 = .ok (.aaload, 1) := by decide +kernel
theorem d_po_dropWave_27 : decode prog_3_method_7_code 27 = .ok (.aload_n 3, 1) := by decide +kernel
theorem d_po_dropWave_28 : decode prog_3_method_7_code 28 = .ok (.getfield 41, 3) := by decide +kernel
theorem d_po_dropWave_31 : decode prog_3_method_7_code 31 = .ok (.aload_n 3, 1) := by decide +kernel
theorem d_po_dropWave_32 : decode prog_3_method_7_code 32 = .ok (.getfield 44, 3) := by decide +kernel
theorem d_po_dropWave_35 : decode prog_3_method_7_code 35 = .ok (.aload_n 3, 1) := by decide +kernel
theorem d_po_dropWave_36 : decode prog_3_method_7_code 36 = .ok (.getfield 47, 3) := by decide +kernel
theorem d_po_dropWave_39 : decode prog_3_method_7_code 39 = .ok (.invokevirtual 54, 3) := by decide +kernel
theorem d_po_dropWave_42 : decode prog_3_method_7_code 42 = .ok (.iinc 2 1, 3) := by decide +kernel
theorem d_po_dropWave_45 : decode prog_3_method_7_code 45 = .ok (.goto (-43), 3) := by decide +kernel
theorem d_po_dropWave_48 : decode prog_3_method_7_code 48 = .ok (.aload_n 0, 1) := by decide +kernel
theorem d_po_dropWave_49 : decode prog_3_method_7_code 49 = .ok (.dup, 1) := by decide +kernel
theorem d_po_dropWave_50 : decode prog_3_method_7_code 50 = .ok (.getfield 34, 3) := by decide +kernel
theorem d_po_dropWave_53 : decode prog_3_method_7_code 53 = .ok (.iconst 1, 1) := by decide +kernel
theorem d_po_dropWave_54 : decode prog_3_method_7_code 54 = .ok (.isub, 1) := by decide +kernel
theorem d_po_dropWave_55 : decode prog_3_method_7_code 55 = .ok (.putfield 34, 3) := by decide +kernel
theorem d_po_dropWave_58 : decode prog_3_method_7_code 58 = .ok (.return_, 1) := by decide +kernel
theorem d_po_sumAt_0 : decode prog_3_method_8_code 0 = .ok (.bipush 10, 2) := by decide +kernel
theorem d_po_sumAt_2 : decode prog_3_method_8_code 2 = .ok (.aload_n 0, 1) := by decide +kernel
theorem d_po_sumAt_3 : decode prog_3_method_8_code 3 = .ok (.getfield 25, 3) := by decide +kernel
theorem d_po_sumAt_6 : decode prog_3_method_8_code 6 = .ok (.imul, 1) := by decide +kernel
theorem d_po_sumAt_7 : decode prog_3_method_8_code 7 = .ok (.istore_n 2, 1) := by decide +kernel
theorem d_po_sumAt_8 : decode prog_3_method_8_code 8 = .ok (.iconst 0, 1) := by decide +kernel
theorem d_po_sumAt_9 : decode prog_3_method_8_code 9 = .ok (.istore_n 3, 1) := by decide +kernel
theorem d_po_sumAt_10 : decode prog_3_method_8_code 10 = .ok (.iload_n 3, 1) := by decide +kernel
theorem d_po_sumAt_11 : decode prog_3_method_8_code 11 = .ok (.aload_n 0, 1) := by decide +kernel
theorem d_po_sumAt_12 : decode prog_3_method_8_code 12 = .ok (.getfield 34, 3) := by decide +kernel
theorem d_po_sumAt_15 : decode prog_3_method_8_code 15 = .ok (.if_icmp .ge 22, 3) := by decide +kernel
theorem d_po_sumAt_18 : decode prog_3_method_8_code 18 = .ok (.iload_n 2, 1) := by decide +kernel
theorem d_po_sumAt_19 : decode prog_3_method_8_code 19 = .ok (.aload_n 0, 1) := by decide +kernel
theorem d_po_sumAt_20 : decode prog_3_method_8_code 20 = .ok (.getfield 17, 3) := by decide +kernel
theorem d_po_sumAt_23 : decode prog_3_method_8_code 23 = .ok (.iload_n 3, 1) := by decide +kernel
theorem d_po_sumAt_24 : decode prog_3_method_8_code 24 = .ok (.aaload, 1) := by decide +kernel
theorem d_po_sumAt_25 : decode prog_3_method_8_code 25 = .ok (.iload_n 1, 1) := by decide +kernel
theorem d_po_sumAt_26 : decode prog_3_method_8_code 26 = .ok (.invokevirtual 57, 3) := by decide +kernel
theorem d_po_sumAt_29 : decode prog_3_method_8_code 29 = .ok (.iadd, 1) := by decide +kernel
theorem d_po_sumAt_30 : decode prog_3_method_8_code 30 = .ok (.istore_n 2, 1) := by decide +kernel
theorem d_po_sumAt_31 : decode prog_3_method_8_code 31 = .ok (.iinc 3 1, 3) := by decide +kernel
theorem d_po_sumAt_34 : decode prog_3_method_8_code 34 = .ok (.goto (-24), 3) := by decide +kernel
theorem d_po_sumAt_37 : decode prog_3_method_8_code 37 = .ok (.iload_n 2, 1) := by decide +kernel
theorem d_po_sumAt_38 : decode prog_3_method_8_code 38 = .ok (.ireturn, 1) := by decide +kernel
theorem d_po_ownHeightAt_0 : decode prog_3_method_9_code 0 = .ok (.aload_n 0, 1) := by decide +kernel
theorem d_po_ownHeightAt_1 : decode prog_3_method_9_code 1 = .ok (.iload_n 1, 1) := by decide +kernel
theorem d_po_ownHeightAt_2 : decode prog_3_method_9_code 2 = .ok (.invokevirtual 61, 3) := by decide +kernel
theorem d_po_ownHeightAt_5 : decode prog_3_method_9_code 5 = .ok (.istore_n 2, 1) := by decide +kernel
theorem d_po_ownHeightAt_6 : decode prog_3_method_9_code 6 = .ok (.aload_n 0, 1) := by decide +kernel
theorem d_po_ownHeightAt_7 : decode prog_3_method_9_code 7 = .ok (.getfield 22, 3) := by decide +kernel
theorem d_po_ownHeightAt_10 : decode prog_3_method_9_code 10 = .ok (.iconst 4, 1) := by decide +kernel
theorem d_po_ownHeightAt_11 : decode prog_3_method_9_code 11 = .ok (.if_icmp .ne 17, 3) := by decide +kernel
theorem d_po_ownHeightAt_14 : decode prog_3_method_9_code 14 = .ok (.iload_n 1, 1) := by decide +kernel
theorem d_po_ownHeightAt_15 : decode prog_3_method_9_code 15 = .ok (.invokestatic 64, 3) := by decide +kernel
theorem d_po_ownHeightAt_18 : decode prog_3_method_9_code 18 = .ok (.ifCond .eq 10, 3) := by decide +kernel
theorem d_po_ownHeightAt_21 : decode prog_3_method_9_code 21 = .ok (.iload_n 2, 1) := by decide +kernel
theorem d_po_ownHeightAt_22 : decode prog_3_method_9_code 22 = .ok (.aload_n 0, 1) := by decide +kernel
theorem d_po_ownHeightAt_23 : decode prog_3_method_9_code 23 = .ok (.getfield 28, 3) := by decide +kernel
theorem d_po_ownHeightAt_26 : decode prog_3_method_9_code 26 = .ok (.iadd, 1) := by decide +kernel
theorem d_po_ownHeightAt_27 : decode prog_3_method_9_code 27 = .ok (.istore_n 2, 1) := by decide +kernel
theorem d_po_ownHeightAt_28 : decode prog_3_method_9_code 28 = .ok (.aload_n 0, 1) := by decide +kernel
theorem d_po_ownHeightAt_29 : decode prog_3_method_9_code 29 = .ok (.iconst 1, 1) := by decide +kernel
theorem d_po_ownHeightAt_30 : decode prog_3_method_9_code 30 = .ok (.invokevirtual 68, 3) := by decide +kernel
theorem d_po_ownHeightAt_33 : decode prog_3_method_9_code 33 = .ok (.ifCond .eq 15, 3) := by decide +kernel
theorem d_po_ownHeightAt_36 : decode prog_3_method_9_code 36 = .ok (.iload_n 2, 1) := by decide +kernel
theorem d_po_ownHeightAt_37 : decode prog_3_method_9_code 37 = .ok (.bipush 10, 2) := by decide +kernel
theorem d_po_ownHeightAt_39 : decode prog_3_method_9_code 39 = .ok (.aload_n 0, 1) := by decide +kernel
theorem d_po_ownHeightAt_40 : decode prog_3_method_9_code 40 = .ok (.getfield 28, 3) := by decide +kernel
theorem d_po_ownHeightAt_43 : decode prog_3_method_9_code 43 = .ok (.imul, 1) := by decide +kernel
theorem d_po_ownHeightAt_44 : decode prog_3_method_9_code 44 = .ok (.invokestatic 71, 3) := by decide +kernel
theorem d_po_ownHeightAt_47 : decode prog_3_method_9_code 47 = .ok (.istore_n 2, 1) := by decide +kernel
theorem d_po_ownHeightAt_48 : decode prog_3_method_9_code 48 = .ok (.aload_n 0, 1) := by decide +kernel
theorem d_po_ownHeightAt_49 : decode prog_3_method_9_code 49 = .ok (.getfield 22, 3) := by decide +kernel
theorem d_po_ownHeightAt_52 : decode prog_3_method_9_code 52 = .ok (.iconst 2, 1) := by decide +kernel
theorem d_po_ownHeightAt_53 : decode prog_3_method_9_code 53 = .ok (.if_icmp .ne 8, 3) := by decide +kernel
theorem d_po_ownHeightAt_56 : decode prog_3_method_9_code 56 = .ok (.bipush 6, 2) := by decide +kernel
theorem d_po_ownHeightAt_58 : decode prog_3_method_9_code 58 = .ok (.goto 4, 3) := by decide +kernel
theorem d_po_ownHeightAt_61 : decode prog_3_method_9_code 61 = .ok (.iconst 0, 1) := by decide +kernel
theorem d_po_ownHeightAt_62 : decode prog_3_method_9_code 62 = .ok (.istore_n 3, 1) := by decide +kernel
theorem d_po_ownHeightAt_63 : decode prog_3_method_9_code 63 = .ok (.iconst 1, 1) := by decide +kernel
theorem d_po_ownHeightAt_64 : decode prog_3_method_9_code 64 = .ok (.istore 4, 2) := by decide +kernel
theorem d_po_ownHeightAt_66 : decode prog_3_method_9_code 66 = .ok (.iload 4, 2) := by decide +kernel
theorem d_po_ownHeightAt_68 : decode prog_3_method_9_code 68 = .ok (.iload_n 3, 1) := by decide +kernel
theorem d_po_ownHeightAt_69 : decode prog_3_method_9_code 69 = .ok (.if_icmp .gt 22, 3) := by decide +kernel
theorem d_po_ownHeightAt_72 : decode prog_3_method_9_code 72 = .ok (.iload_n 2, 1) := by decide +kernel
theorem d_po_ownHeightAt_73 : decode prog_3_method_9_code 73 = .ok (.aload_n 0, 1) := by decide +kernel
theorem d_po_ownHeightAt_74 : decode prog_3_method_9_code 74 = .ok (.iload_n 1, 1) := by decide +kernel
theorem d_po_ownHeightAt_75 : decode prog_3_method_9_code 75 = .ok (.iload 4, 2) := by decide +kernel
theorem d_po_ownHeightAt_77 : decode prog_3_method_9_code 77 = .ok (.isub, 1) := by decide +kernel
theorem d_po_ownHeightAt_78 : decode prog_3_method_9_code 78 = .ok (.invokevirtual 61, 3) := by decide +kernel
theorem d_po_ownHeightAt_81 : decode prog_3_method_9_code 81 = .ok (.invokestatic 71, 3) := by decide +kernel
theorem d_po_ownHeightAt_84 : decode prog_3_method_9_code 84 = .ok (.istore_n 2, 1) := by decide +kernel
theorem d_po_ownHeightAt_85 : decode prog_3_method_9_code 85 = .ok (.iinc 4 1, 3) := by decide +kernel
theorem d_po_ownHeightAt_88 : decode prog_3_method_9_code 88 = .ok (.goto (-22), 3) := by decide +kernel
theorem d_po_ownHeightAt_91 : decode prog_3_method_9_code 91 = .ok (.iload_n 2, 1) := by decide +kernel
theorem d_po_ownHeightAt_92 : decode prog_3_method_9_code 92 = .ok (.ireturn, 1) := by decide +kernel
theorem d_po_isOddDay_0 : decode prog_3_method_10_code 0 = .ok (.iload_n 0, 1) := by decide +kernel
theorem d_po_isOddDay_1 : decode prog_3_method_10_code 1 = .ok (.sipush 144, 3) := by decide +kernel
theorem d_po_isOddDay_4 : decode prog_3_method_10_code 4 = .ok (.invokestatic 77, 3) := by decide +kernel
theorem d_po_isOddDay_7 : decode prog_3_method_10_code 7 = .ok (.iconst 1, 1) := by decide +kernel
theorem d_po_isOddDay_8 : decode prog_3_method_10_code 8 = .ok (.iand, 1) := by decide +kernel
theorem d_po_isOddDay_9 : decode prog_3_method_10_code 9 = .ok (.iconst 1, 1) := by decide +kernel
theorem d_po_isOddDay_10 : decode prog_3_method_10_code 10 = .ok (.if_icmp .ne 7, 3) := by decide +kernel
theorem d_po_isOddDay_13 : decode prog_3_method_10_code 13 = .ok (.iconst 1, 1) := by decide +kernel
theorem d_po_isOddDay_14 : decode prog_3_method_10_code 14 = .ok (.goto 4, 3) := by decide +kernel
theorem d_po_isOddDay_17 : decode prog_3_method_10_code 17 = .ok (.iconst 0, 1) := by decide +kernel
theorem d_po_isOddDay_18 : decode prog_3_method_10_code 18 = .ok (.ireturn, 1) := by decide +kernel
theorem d_se_init_0 : decode prog_4_method_1_code 0 = .ok (.aload_n 0, 1) := by decide +kernel
theorem d_se_init_1 : decode prog_4_method_1_code 1 = .ok (.invokespecial 3, 3) := by decide +kernel
theorem d_se_init_4 : decode prog_4_method_1_code 4 = .ok (.aload_n 0, 1) := by decide +kernel
theorem d_se_init_5 : decode prog_4_method_1_code 5 = .ok (.iconst 4, 1) := by decide +kernel
theorem d_se_init_6 : decode prog_4_method_1_code 6 = .ok (.anewarray 9, 3) := by decide +kernel
theorem d_se_init_9 : decode prog_4_method_1_code 9 = .ok (.putfield 11, 3) := by decide +kernel
theorem d_se_init_12 : decode prog_4_method_1_code 12 = .ok (.iconst 0, 1) := by decide +kernel
theorem d_se_init_13 : decode prog_4_method_1_code 13 = .ok (.istore_n 1, 1) := by decide +kernel
theorem d_se_init_14 : decode prog_4_method_1_code 14 = .ok (.iload_n 1, 1) := by decide +kernel
theorem d_se_init_15 : decode prog_4_method_1_code 15 = .ok (.iconst 4, 1) := by decide +kernel
theorem d_se_init_16 : decode prog_4_method_1_code 16 = .ok (.if_icmp .ge 22, 3) := by decide +kernel
theorem d_se_init_19 : decode prog_4_method_1_code 19 = .ok (.aload_n 0, 1) := by decide +kernel
theorem d_se_init_20 : decode prog_4_method_1_code 20 = .ok (.getfield 11, 3) := by decide +kernel
theorem d_se_init_23 : decode prog_4_method_1_code 23 = .ok (.iload_n 1, 1) := by decide +kernel
theorem d_se_init_24 : decode prog_4_method_1_code 24 = .ok (.new 9, 3) := by decide +kernel
theorem d_se_init_27 : decode prog_4_method_1_code 27 = .ok (.dup, 1) := by decide +kernel
theorem d_se_init_28 : decode prog_4_method_1_code 28 = .ok (.invokespecial 17, 3) := by decide +kernel
theorem d_se_init_31 : decode prog_4_method_1_code 31 = .ok (.aastore, 1) := by decide +kernel
theorem d_se_init_32 : decode prog_4_method_1_code 32 = .ok (.iinc 1 1, 3) := by decide +kernel
theorem d_se_init_35 : decode prog_4_method_1_code 35 = .ok (.goto (-21), 3) := by decide +kernel
theorem d_se_init_38 : decode prog_4_method_1_code 38 = .ok (.return_, 1) := by decide +kernel
theorem d_se_become_0 : decode prog_4_method_2_code 0 = .ok (.aload_n 0, 1) := by decide +kernel
theorem d_se_become_1 : decode prog_4_method_2_code 1 = .ok (.aload_n 1, 1) := by decide +kernel
theorem d_se_become_2 : decode prog_4_method_2_code 2 = .ok (.getfield 18, 3) := by decide +kernel
theorem d_se_become_5 : decode prog_4_method_2_code 5 = .ok (.putfield 18, 3) := by decide +kernel
theorem d_se_become_8 : decode prog_4_method_2_code 8 = .ok (.aload_n 0, 1) := by decide +kernel
theorem d_se_become_9 : decode prog_4_method_2_code 9 = .ok (.aload_n 1, 1) := by decide +kernel
theorem d_se_become_10 : decode prog_4_method_2_code 10 = .ok (.getfield 22, 3) := by decide +kernel
theorem d_se_become_13 : decode prog_4_method_2_code 13 = .ok (.putfield 22, 3) := by decide +kernel
theorem d_se_become_16 : decode prog_4_method_2_code 16 = .ok (.iconst 0, 1) := by decide +kernel
theorem d_se_become_17 : decode prog_4_method_2_code 17 = .ok (.istore_n 2, 1) := by decide +kernel
theorem d_se_become_18 : decode prog_4_method_2_code 18 = .ok (.iload_n 2, 1) := by decide +kernel
theorem d_se_become_19 : decode prog_4_method_2_code 19 = .ok (.aload_n 0, 1) := by decide +kernel
theorem d_se_become_20 : decode prog_4_method_2_code 20 = .ok (.getfield 18, 3) := by decide +kernel
theorem d_se_become_23 : decode prog_4_method_2_code 23 = .ok (.if_icmp .ge 24, 3) := by decide +kernel
theorem d_se_become_26 : decode prog_4_method_2_code 26 = .ok (.aload_n 0, 1) := by decide +kernel
theorem d_se_become_27 : decode prog_4_method_2_code 27 = .ok (.getfield 11, 3) := by decide +kernel
theorem d_se_become_30 : decode prog_4_method_2_code 30 = .ok (.iload_n 2, 1) := by decide +kernel
theorem d_se_become_31 : decode prog_4_method_2_code 31 = .ok (.aaload, 1) := by decide +kernel
theorem d_se_become_32 : decode prog_4_method_2_code 32 = .ok (.aload_n 1, 1) := by decide +kernel
theorem d_se_become_33 : decode prog_4_method_2_code 33 = .ok (.getfield 11, 3) := by decide +kernel
theorem d_se_become_36 : decode prog_4_method_2_code 36 = .ok (.iload_n 2, 1) := by decide +kernel
theorem d_se_become_37 : decode prog_4_method_2_code 37 = .ok (.aaload, 1) := by decide +kernel
theorem d_se_become_38 : decode prog_4_method_2_code 38 = .ok (.invokevirtual 25, 3) := by decide +kernel
theorem d_se_become_41 : decode prog_4_method_2_code 41 = .ok (.iinc 2 1, 3) := by decide +kernel
theorem d_se_become_44 : decode prog_4_method_2_code 44 = .ok (.goto (-26), 3) := by decide +kernel
theorem d_se_become_47 : decode prog_4_method_2_code 47 = .ok (.return_, 1) := by decide +kernel
theorem d_se_knows_0 : decode prog_4_method_3_code 0 = .ok (.iload_n 1, 1) := by decide +kernel
theorem d_se_knows_1 : decode prog_4_method_3_code 1 = .ok (.ifCond .lt 15, 3) := by decide +kernel
theorem d_se_knows_4 : decode prog_4_method_3_code 4 = .ok (.iload_n 1, 1) := by decide +kernel
theorem d_se_knows_5 : decode prog_4_method_3_code 5 = .ok (.aload_n 0, 1) := by decide +kernel
theorem d_se_knows_6 : decode prog_4_method_3_code 6 = .ok (.getfield 18, 3) := by decide +kernel
theorem d_se_knows_9 : decode prog_4_method_3_code 9 = .ok (.if_icmp .ge 7, 3) := by decide +kernel
theorem d_se_knows_12 : decode prog_4_method_3_code 12 = .ok (.iconst 1, 1) := by decide +kernel
theorem d_se_knows_13 : decode prog_4_method_3_code 13 = .ok (.goto 4, 3) := by decide +kernel
theorem d_se_knows_16 : decode prog_4_method_3_code 16 = .ok (.iconst 0, 1) := by decide +kernel
theorem d_se_knows_17 : decode prog_4_method_3_code 17 = .ok (.ireturn, 1) := by decide +kernel
theorem d_se_heightAt_0 : decode prog_4_method_4_code 0 = .ok (.aload_n 0, 1) := by decide +kernel
theorem d_se_heightAt_1 : decode prog_4_method_4_code 1 = .ok (.iload_n 1, 1) := by decide +kernel
theorem d_se_heightAt_2 : decode prog_4_method_4_code 2 = .ok (.invokevirtual 29, 3) := by decide +kernel
theorem d_se_heightAt_5 : decode prog_4_method_4_code 5 = .ok (.ifCond .ne 5, 3) := by decide +kernel
theorem d_se_heightAt_8 : decode prog_4_method_4_code 8 = .ok (.iconst 0, 1) := by decide +kernel
theorem d_se_heightAt_9 : decode prog_4_method_4_code 9 = .ok (.ireturn, 1) := by decide +kernel
theorem d_se_heightAt_10 : decode prog_4_method_4_code 10 = .ok (.aload_n 0, 1) := by decide +kernel
theorem d_se_heightAt_11 : decode prog_4_method_4_code 11 = .ok (.getfield 11, 3) := by decide +kernel
theorem d_se_heightAt_14 : decode prog_4_method_4_code 14 = .ok (.iload_n 1, 1) := by decide +kernel
theorem d_se_heightAt_15 : decode prog_4_method_4_code 15 = .ok (.aaload, 1) := by decide +kernel
theorem d_se_heightAt_16 : decode prog_4_method_4_code 16 = .ok (.astore_n 3, 1) := by decide +kernel
theorem d_se_heightAt_17 : decode prog_4_method_4_code 17 = .ok (.aload_n 3, 1) := by decide +kernel
theorem d_se_heightAt_18 : decode prog_4_method_4_code 18 = .ok (.getfield 33, 3) := by decide +kernel
theorem d_se_heightAt_21 : decode prog_4_method_4_code 21 = .ok (.iconst 3, 1) := by decide +kernel
theorem d_se_heightAt_22 : decode prog_4_method_4_code 22 = .ok (.if_icmp .eq 9, 3) := by decide +kernel
theorem d_se_heightAt_25 : decode prog_4_method_4_code 25 = .ok (.aload_n 3, 1) := by decide +kernel
theorem d_se_heightAt_26 : decode prog_4_method_4_code 26 = .ok (.iload_n 2, 1) := by decide +kernel
theorem d_se_heightAt_27 : decode prog_4_method_4_code 27 = .ok (.invokevirtual 36, 3) := by decide +kernel
theorem d_se_heightAt_30 : decode prog_4_method_4_code 30 = .ok (.ireturn, 1) := by decide +kernel
theorem d_se_heightAt_31 : decode prog_4_method_4_code 31 = .ok (.aload_n 0, 1) := by decide +kernel
theorem d_se_heightAt_32 : decode prog_4_method_4_code 32 = .ok (.getfield 11, 3) := by decide +kernel
theorem d_se_heightAt_35 : decode prog_4_method_4_code 35 = .ok (.iconst 0, 1) := by decide +kernel
theorem d_se_heightAt_36 : decode prog_4_method_4_code 36 = .ok (.aaload, 1) := by decide +kernel
theorem d_se_heightAt_37 : decode prog_4_method_4_code 37 = .ok (.iload_n 2, 1) := by decide +kernel
theorem d_se_heightAt_38 : decode prog_4_method_4_code 38 = .ok (.aload_n 3, 1) := by decide +kernel
theorem d_se_heightAt_39 : decode prog_4_method_4_code 39 = .ok (.getfield 40, 3) := by decide +kernel
theorem d_se_heightAt_42 : decode prog_4_method_4_code 42 = .ok (.isub, 1) := by decide +kernel
theorem d_se_heightAt_43 : decode prog_4_method_4_code 43 = .ok (.invokevirtual 36, 3) := by decide +kernel
theorem d_se_heightAt_46 : decode prog_4_method_4_code 46 = .ok (.istore 4, 2) := by decide +kernel
theorem d_se_heightAt_48 : decode prog_4_method_4_code 48 = .ok (.iload 4, 2) := by decide +kernel
theorem d_se_heightAt_50 : decode prog_4_method_4_code 50 = .ok (.aload_n 3, 1) := by decide +kernel
theorem d_se_heightAt_51 : decode prog_4_method_4_code 51 = .ok (.getfield 43, 3) := by decide +kernel
theorem d_se_heightAt_54 : decode prog_4_method_4_code 54 = .ok (.imul, 1) := by decide +kernel
theorem d_se_heightAt_55 : decode prog_4_method_4_code 55 = .ok (.bipush 100, 2) := by decide +kernel
theorem d_se_heightAt_57 : decode prog_4_method_4_code 57 = .ok (.invokestatic 46, 3) := by decide +kernel
theorem d_se_heightAt_60 : decode prog_4_method_4_code 60 = .ok (.bipush 10, 2) := by decide +kernel
theorem d_se_heightAt_62 : decode prog_4_method_4_code 62 = .ok (.aload_n 3, 1) := by decide +kernel
theorem d_se_heightAt_63 : decode prog_4_method_4_code 63 = .ok (.getfield 52, 3) := by decide +kernel
theorem d_se_heightAt_66 : decode prog_4_method_4_code 66 = .ok (.imul, 1) := by decide +kernel
theorem d_se_heightAt_67 : decode prog_4_method_4_code 67 = .ok (.iadd, 1) := by decide +kernel
theorem d_se_heightAt_68 : decode prog_4_method_4_code 68 = .ok (.ireturn, 1) := by decide +kernel
theorem d_se_fill_0 : decode prog_4_method_5_code 0 = .ok (.iconst 0, 1) := by decide +kernel
theorem d_se_fill_1 : decode prog_4_method_5_code 1 = .ok (.istore 5, 2) := by decide +kernel
theorem d_se_fill_3 : decode prog_4_method_5_code 3 = .ok (.iload 5, 2) := by decide +kernel
theorem d_se_fill_5 : decode prog_4_method_5_code 5 = .ok (.iload 4, 2) := by decide +kernel
theorem d_se_fill_7 : decode prog_4_method_5_code 7 = .ok (.if_icmp .ge 29, 3) := by decide +kernel
theorem d_se_fill_10 : decode prog_4_method_5_code 10 = .ok (.iload 5, 2) := by decide +kernel
theorem d_se_fill_12 : decode prog_4_method_5_code 12 = .ok (.aload_n 1, 1) := by decide +kernel
theorem d_se_fill_13 : decode prog_4_method_5_code 13 = .ok (.arraylength, 1) := by decide +kernel
theorem d_se_fill_14 : decode prog_4_method_5_code 14 = .ok (.if_icmp .ge 22, 3) := by decide +kernel
theorem d_se_fill_17 : decode prog_4_method_5_code 17 = .ok (.aload_n 1, 1) := by decide +kernel
theorem d_se_fill_18 : decode prog_4_method_5_code 18 = .ok (.iload 5, 2) := by decide +kernel
theorem d_se_fill_20 : decode prog_4_method_5_code 20 = .ok (.aload_n 0, 1) := by decide +kernel
theorem d_se_fill_21 : decode prog_4_method_5_code 21 = .ok (.iload_n 2, 1) := by decide +kernel
theorem d_se_fill_22 : decode prog_4_method_5_code 22 = .ok (.iload_n 3, 1) := by decide +kernel
theorem d_se_fill_23 : decode prog_4_method_5_code 23 = .ok (.iload 5, 2) := by decide +kernel
theorem d_se_fill_25 : decode prog_4_method_5_code 25 = .ok (.iadd, 1) := by decide +kernel
theorem d_se_fill_26 : decode prog_4_method_5_code 26 = .ok (.invokevirtual 55, 3) := by decide +kernel
theorem d_se_fill_29 : decode prog_4_method_5_code 29 = .ok (.iastore, 1) := by decide +kernel
theorem d_se_fill_30 : decode prog_4_method_5_code 30 = .ok (.iinc 5 1, 3) := by decide +kernel
theorem d_se_fill_33 : decode prog_4_method_5_code 33 = .ok (.goto (-30), 3) := by decide +kernel
theorem d_se_fill_36 : decode prog_4_method_5_code 36 = .ok (.return_, 1) := by decide +kernel
theorem d_se_wavesOfAll_0 : decode prog_4_method_6_code 0 = .ok (.iconst 0, 1) := by decide +kernel
theorem d_se_wavesOfAll_1 : decode prog_4_method_6_code 1 = .ok (.istore_n 1, 1) := by decide +kernel
theorem d_se_wavesOfAll_2 : decode prog_4_method_6_code 2 = .ok (.iconst 0, 1) := by decide +kernel
theorem d_se_wavesOfAll_3 : decode prog_4_method_6_code 3 = .ok (.istore_n 2, 1) := by decide +kernel
theorem d_se_wavesOfAll_4 : decode prog_4_method_6_code 4 = .ok (.iload_n 2, 1) := by decide +kernel
theorem d_se_wavesOfAll_5 : decode prog_4_method_6_code 5 = .ok (.aload_n 0, 1) := by decide +kernel
theorem d_se_wavesOfAll_6 : decode prog_4_method_6_code 6 = .ok (.getfield 18, 3) := by decide +kernel
theorem d_se_wavesOfAll_9 : decode prog_4_method_6_code 9 = .ok (.if_icmp .ge 21, 3) := by decide +kernel
theorem d_se_wavesOfAll_12 : decode prog_4_method_6_code 12 = .ok (.iload_n 1, 1) := by decide +kernel
theorem d_se_wavesOfAll_13 : decode prog_4_method_6_code 13 = .ok (.aload_n 0, 1) := by decide +kernel
theorem d_se_wavesOfAll_14 : decode prog_4_method_6_code 14 = .ok (.getfield 11, 3) := by decide +kernel
theorem d_se_wavesOfAll_17 : decode prog_4_method_6_code 17 = .ok (.iload_n 2, 1) := by decide +kernel
theorem d_se_wavesOfAll_18 : decode prog_4_method_6_code 18 = .ok (.aaload, 1) := by decide +kernel
theorem d_se_wavesOfAll_19 : decode prog_4_method_6_code 19 = .ok (.getfield 58, 3) := by decide +kernel
theorem d_se_wavesOfAll_22 : decode prog_4_method_6_code 22 = .ok (.iadd, 1) := by decide +kernel
theorem d_se_wavesOfAll_23 : decode prog_4_method_6_code 23 = .ok (.istore_n 1, 1) := by decide +kernel
theorem d_se_wavesOfAll_24 : decode prog_4_method_6_code 24 = .ok (.iinc 2 1, 3) := by decide +kernel
theorem d_se_wavesOfAll_27 : decode prog_4_method_6_code 27 = .ok (.goto (-23), 3) := by decide +kernel
theorem d_se_wavesOfAll_30 : decode prog_4_method_6_code 30 = .ok (.iload_n 1, 1) := by decide +kernel
theorem d_se_wavesOfAll_31 : decode prog_4_method_6_code 31 = .ok (.ireturn, 1) := by decide +kernel
theorem d_se_followers_0 : decode prog_4_method_7_code 0 = .ok (.iconst 0, 1) := by decide +kernel
theorem d_se_followers_1 : decode prog_4_method_7_code 1 = .ok (.istore_n 1, 1) := by decide +kernel
theorem d_se_followers_2 : decode prog_4_method_7_code 2 = .ok (.iconst 0, 1) := by decide +kernel
theorem d_se_followers_3 : decode prog_4_method_7_code 3 = .ok (.istore_n 2, 1) := by decide +kernel
theorem d_se_followers_4 : decode prog_4_method_7_code 4 = .ok (.iload_n 2, 1) := by decide +kernel
theorem d_se_followers_5 : decode prog_4_method_7_code 5 = .ok (.aload_n 0, 1) := by decide +kernel
theorem d_se_followers_6 : decode prog_4_method_7_code 6 = .ok (.getfield 18, 3) := by decide +kernel
theorem d_se_followers_9 : decode prog_4_method_7_code 9 = .ok (.if_icmp .ge 25, 3) := by decide +kernel
theorem d_se_followers_12 : decode prog_4_method_7_code 12 = .ok (.aload_n 0, 1) := by decide +kernel
theorem d_se_followers_13 : decode prog_4_method_7_code 13 = .ok (.getfield 11, 3) := by decide +kernel
theorem d_se_followers_16 : decode prog_4_method_7_code 16 = .ok (.iload_n 2, 1) := by decide +kernel
theorem d_se_followers_17 : decode prog_4_method_7_code 17 = .ok (.aaload, 1) := by decide +kernel
theorem d_se_followers_18 : decode prog_4_method_7_code 18 = .ok (.getfield 33, 3) := by decide +kernel
theorem d_se_followers_21 : decode prog_4_method_7_code 21 = .ok (.iconst 3, 1) := by decide +kernel
theorem d_se_followers_22 : decode prog_4_method_7_code 22 = .ok (.if_icmp .ne 6, 3) := by decide +kernel
theorem d_se_followers_25 : decode prog_4_method_7_code 25 = .ok (.iinc 1 1, 3) := by decide +kernel
theorem d_se_followers_28 : decode prog_4_method_7_code 28 = .ok (.iinc 2 1, 3) := by decide +kernel
theorem d_se_followers_31 : decode prog_4_method_7_code 31 = .ok (.goto (-27), 3) := by decide +kernel
theorem d_se_followers_34 : decode prog_4_method_7_code 34 = .ok (.iload_n 1, 1) := by decide +kernel
theorem d_se_followers_35 : decode prog_4_method_7_code 35 = .ok (.ireturn, 1) := by decide +kernel
theorem d_se_greatestOnDay0_0 : decode prog_4_method_8_code 0 = .ok (.aload_n 0, 1) := by decide +kernel
theorem d_se_greatestOnDay0_1 : decode prog_4_method_8_code 1 = .ok (.iconst 0, 1) := by decide +kernel
theorem d_se_greatestOnDay0_2 : decode prog_4_method_8_code 2 = .ok (.iconst 0, 1) := by decide +kernel
theorem d_se_greatestOnDay0_3 : decode prog_4_method_8_code 3 = .ok (.invokevirtual 55, 3) := by decide +kernel
theorem d_se_greatestOnDay0_6 : decode prog_4_method_8_code 6 = .ok (.istore_n 1, 1) := by decide +kernel
theorem d_se_greatestOnDay0_7 : decode prog_4_method_8_code 7 = .ok (.iconst 0, 1) := by decide +kernel
theorem d_se_greatestOnDay0_8 : decode prog_4_method_8_code 8 = .ok (.istore_n 2, 1) := by decide +kernel
theorem d_se_greatestOnDay0_9 : decode prog_4_method_8_code 9 = .ok (.iload_n 2, 1) := by decide +kernel
theorem d_se_greatestOnDay0_10 : decode prog_4_method_8_code 10 = .ok (.aload_n 0, 1) := by decide +kernel
theorem d_se_greatestOnDay0_11 : decode prog_4_method_8_code 11 = .ok (.getfield 18, 3) := by decide +kernel
theorem d_se_greatestOnDay0_14 : decode prog_4_method_8_code 14 = .ok (.if_icmp .ge 35, 3) := by decide +kernel
theorem d_se_greatestOnDay0_17 : decode prog_4_method_8_code 17 = .ok (.iconst 0, 1) := by decide +kernel
theorem d_se_greatestOnDay0_18 : decode prog_4_method_8_code 18 = .ok (.istore_n 3, 1) := by decide +kernel
theorem d_se_greatestOnDay0_19 : decode prog_4_method_8_code 19 = .ok (.iload_n 3, 1) := by decide +kernel
theorem d_se_greatestOnDay0_20 : decode prog_4_method_8_code 20 = .ok (.sipush 144, 3) := by decide +kernel
theorem d_se_greatestOnDay0_23 : decode prog_4_method_8_code 23 = .ok (.if_icmp .ge 20, 3) := by decide +kernel
theorem d_se_greatestOnDay0_26 : decode prog_4_method_8_code 26 = .ok (.iload_n 1, 1) := by decide +kernel
theorem d_se_greatestOnDay0_27 : decode prog_4_method_8_code 27 = .ok (.aload_n 0, 1) := by decide +kernel
theorem d_se_greatestOnDay0_28 : decode prog_4_method_8_code 28 = .ok (.iload_n 2, 1) := by decide +kernel
theorem d_se_greatestOnDay0_29 : decode prog_4_method_8_code 29 = .ok (.iload_n 3, 1) := by decide +kernel
theorem d_se_greatestOnDay0_30 : decode prog_4_method_8_code 30 = .ok (.invokevirtual 55, 3) := by decide +kernel
theorem d_se_greatestOnDay0_33 : decode prog_4_method_8_code 33 = .ok (.invokestatic 59, 3) := by decide +kernel
theorem d_se_greatestOnDay0_36 : decode prog_4_method_8_code 36 = .ok (.istore_n 1, 1) := by decide +kernel
theorem d_se_greatestOnDay0_37 : decode prog_4_method_8_code 37 = .ok (.iinc 3 1, 3) := by decide +kernel
theorem d_se_greatestOnDay0_40 : decode prog_4_method_8_code 40 = .ok (.goto (-21), 3) := by decide +kernel
theorem d_se_greatestOnDay0_43 : decode prog_4_method_8_code 43 = .ok (.iinc 2 1, 3) := by decide +kernel
theorem d_se_greatestOnDay0_46 : decode prog_4_method_8_code 46 = .ok (.goto (-37), 3) := by decide +kernel
theorem d_se_greatestOnDay0_49 : decode prog_4_method_8_code 49 = .ok (.iload_n 1, 1) := by decide +kernel
theorem d_se_greatestOnDay0_50 : decode prog_4_method_8_code 50 = .ok (.ireturn, 1) := by decide +kernel
theorem d_wa_init_0 : decode prog_5_method_1_code 0 = .ok (.aload_n 0, 1) := by decide +kernel
theorem d_wa_init_1 : decode prog_5_method_1_code 1 = .ok (.invokespecial 1, 3) := by decide +kernel
theorem d_wa_init_4 : decode prog_5_method_1_code 4 = .ok (.return_, 1) := by decide +kernel
theorem d_wa_put_0 : decode prog_5_method_2_code 0 = .ok (.aload_n 0, 1) := by decide +kernel
theorem d_wa_put_1 : decode prog_5_method_2_code 1 = .ok (.iload_n 1, 1) := by decide +kernel
theorem d_wa_put_2 : decode prog_5_method_2_code 2 = .ok (.putfield 7, 3) := by decide +kernel
theorem d_wa_put_5 : decode prog_5_method_2_code 5 = .ok (.aload_n 0, 1) := by decide +kernel
theorem d_wa_put_6 : decode prog_5_method_2_code 6 = .ok (.iload_n 2, 1) := by decide +kernel
theorem d_wa_put_7 : decode prog_5_method_2_code 7 = .ok (.putfield 13, 3) := by decide +kernel
theorem d_wa_put_10 : decode prog_5_method_2_code 10 = .ok (.aload_n 0, 1) := by decide +kernel
theorem d_wa_put_11 : decode prog_5_method_2_code 11 = .ok (.iload_n 3, 1) := by decide +kernel
theorem d_wa_put_12 : decode prog_5_method_2_code 12 = .ok (.putfield 16, 3) := by decide +kernel
theorem d_wa_put_15 : decode prog_5_method_2_code 15 = .ok (.return_, 1) := by decide +kernel
theorem d_wa_givesAt_0 : decode prog_5_method_3_code 0 = .ok (.aload_n 0, 1) := by decide +kernel
theorem d_wa_givesAt_1 : decode prog_5_method_3_code 1 = .ok (.getfield 7, 3) := by decide +kernel
theorem d_wa_givesAt_4 : decode prog_5_method_3_code 4 = .ok (.iload_n 1, 1) := by decide +kernel
theorem d_wa_givesAt_5 : decode prog_5_method_3_code 5 = .ok (.imul, 1) := by decide +kernel
theorem d_wa_givesAt_6 : decode prog_5_method_3_code 6 = .ok (.bipush 16, 2) := by decide +kernel
theorem d_wa_givesAt_8 : decode prog_5_method_3_code 8 = .ok (.aload_n 0, 1) := by decide +kernel
theorem d_wa_givesAt_9 : decode prog_5_method_3_code 9 = .ok (.getfield 16, 3) := by decide +kernel
theorem d_wa_givesAt_12 : decode prog_5_method_3_code 12 = .ok (.imul, 1) := by decide +kernel
theorem d_wa_givesAt_13 : decode prog_5_method_3_code 13 = .ok (.iadd, 1) := by decide +kernel
theorem d_wa_givesAt_14 : decode prog_5_method_3_code 14 = .ok (.sipush 1023, 3) := by decide +kernel
theorem d_wa_givesAt_17 : decode prog_5_method_3_code 17 = .ok (.iand, 1) := by decide +kernel
theorem d_wa_givesAt_18 : decode prog_5_method_3_code 18 = .ok (.istore_n 2, 1) := by decide +kernel
theorem d_wa_givesAt_19 : decode prog_5_method_3_code 19 = .ok (.iload_n 2, 1) := by decide +kernel
theorem d_wa_givesAt_20 : decode prog_5_method_3_code 20 = .ok (.iconst 4, 1) := by decide +kernel
theorem d_wa_givesAt_21 : decode prog_5_method_3_code 21 = .ok (.ishr, 1) := by decide +kernel
theorem d_wa_givesAt_22 : decode prog_5_method_3_code 22 = .ok (.istore_n 3, 1) := by decide +kernel
theorem d_wa_givesAt_23 : decode prog_5_method_3_code 23 = .ok (.iload_n 2, 1) := by decide +kernel
theorem d_wa_givesAt_24 : decode prog_5_method_3_code 24 = .ok (.bipush 15, 2) := by decide +kernel
theorem d_wa_givesAt_26 : decode prog_5_method_3_code 26 = .ok (.iand, 1) := by decide +kernel
theorem d_wa_givesAt_27 : decode prog_5_method_3_code 27 = .ok (.istore 4, 2) := by decide +kernel
theorem d_wa_givesAt_29 : decode prog_5_method_3_code 29 = .ok (.iload_n 3, 1) := by decide +kernel
theorem d_wa_givesAt_30 : decode prog_5_method_3_code 30 = .ok (.invokestatic 19, 3) := by decide +kernel
theorem d_wa_givesAt_33 : decode prog_5_method_3_code 33 = .ok (.bipush 16, 2) := by decide +kernel
theorem d_wa_givesAt_35 : decode prog_5_method_3_code 35 = .ok (.iload 4, 2) := by decide +kernel
theorem d_wa_givesAt_37 : decode prog_5_method_3_code 37 = .ok (.isub, 1) := by decide +kernel
theorem d_wa_givesAt_38 : decode prog_5_method_3_code 38 = .ok (.imul, 1) := by decide +kernel
theorem d_wa_givesAt_39 : decode prog_5_method_3_code 39 = .ok (.iload_n 3, 1) := by decide +kernel
theorem d_wa_givesAt_40 : decode prog_5_method_3_code 40 = .ok (.iconst 1, 1) := by decide +kernel
theorem d_wa_givesAt_41 : decode prog_5_method_3_code 41 = .ok (.iadd, 1) := by decide +kernel
theorem d_wa_givesAt_42 : decode prog_5_method_3_code 42 = .ok (.invokestatic 19, 3) := by decide +kernel
theorem d_wa_givesAt_45 : decode prog_5_method_3_code 45 = .ok (.iload 4, 2) := by decide +kernel
theorem d_wa_givesAt_47 : decode prog_5_method_3_code 47 = .ok (.imul, 1) := by decide +kernel
theorem d_wa_givesAt_48 : decode prog_5_method_3_code 48 = .ok (.iadd, 1) := by decide +kernel
theorem d_wa_givesAt_49 : decode prog_5_method_3_code 49 = .ok (.iconst 4, 1) := by decide +kernel
theorem d_wa_givesAt_50 : decode prog_5_method_3_code 50 = .ok (.ishr, 1) := by decide +kernel
theorem d_wa_givesAt_51 : decode prog_5_method_3_code 51 = .ok (.istore 5, 2) := by decide +kernel
theorem d_wa_givesAt_53 : decode prog_5_method_3_code 53 = .ok (.aload_n 0, 1) := by decide +kernel
theorem d_wa_givesAt_54 : decode prog_5_method_3_code 54 = .ok (.getfield 13, 3) := by decide +kernel
theorem d_wa_givesAt_57 : decode prog_5_method_3_code 57 = .ok (.iload 5, 2) := by decide +kernel
theorem d_wa_givesAt_59 : decode prog_5_method_3_code 59 = .ok (.imul, 1) := by decide +kernel
theorem d_wa_givesAt_60 : decode prog_5_method_3_code 60 = .ok (.bipush 100, 2) := by decide +kernel
theorem d_wa_givesAt_62 : decode prog_5_method_3_code 62 = .ok (.invokestatic 25, 3) := by decide +kernel
theorem d_wa_givesAt_65 : decode prog_5_method_3_code 65 = .ok (.ireturn, 1) := by decide +kernel
theorem d_tb_init_0 : decode prog_1_method_1_code 0 = .ok (.aload_n 0, 1) := by decide +kernel
theorem d_tb_init_1 : decode prog_1_method_1_code 1 = .ok (.invokespecial 3, 3) := by decide +kernel
theorem d_tb_init_4 : decode prog_1_method_1_code 4 = .ok (.aload_n 0, 1) := by decide +kernel
theorem d_tb_init_5 : decode prog_1_method_1_code 5 = .ok (.new 9, 3) := by decide +kernel
theorem d_tb_init_8 : decode prog_1_method_1_code 8 = .ok (.dup, 1) := by decide +kernel
theorem d_tb_init_9 : decode prog_1_method_1_code 9 = .ok (.invokespecial 11, 3) := by decide +kernel
theorem d_tb_init_12 : decode prog_1_method_1_code 12 = .ok (.putfield 12, 3) := by decide +kernel
theorem d_tb_init_15 : decode prog_1_method_1_code 15 = .ok (.aload_n 0, 1) := by decide +kernel
theorem d_tb_init_16 : decode prog_1_method_1_code 16 = .ok (.new 16, 3) := by decide +kernel
theorem d_tb_init_19 : decode prog_1_method_1_code 19 = .ok (.dup, 1) := by decide +kernel
theorem d_tb_init_20 : decode prog_1_method_1_code 20 = .ok (.invokespecial 18, 3) := by decide +kernel
theorem d_tb_init_23 : decode prog_1_method_1_code 23 = .ok (.putfield 19, 3) := by decide +kernel
theorem d_tb_init_26 : decode prog_1_method_1_code 26 = .ok (.aload_n 0, 1) := by decide +kernel
theorem d_tb_init_27 : decode prog_1_method_1_code 27 = .ok (.new 16, 3) := by decide +kernel
theorem d_tb_init_30 : decode prog_1_method_1_code 30 = .ok (.dup, 1) := by decide +kernel
theorem d_tb_init_31 : decode prog_1_method_1_code 31 = .ok (.invokespecial 18, 3) := by decide +kernel
theorem d_tb_init_34 : decode prog_1_method_1_code 34 = .ok (.putfield 23, 3) := by decide +kernel
theorem d_tb_init_37 : decode prog_1_method_1_code 37 = .ok (.aload_n 0, 1) := by decide +kernel
theorem d_tb_init_38 : decode prog_1_method_1_code 38 = .ok (.sipush 344, 3) := by decide +kernel
theorem d_tb_init_41 : decode prog_1_method_1_code 41 = .ok (.newarray .int, 2) := by decide +kernel
theorem d_tb_init_43 : decode prog_1_method_1_code 43 = .ok (.putfield 26, 3) := by decide +kernel
theorem d_tb_init_46 : decode prog_1_method_1_code 46 = .ok (.aload_n 0, 1) := by decide +kernel
theorem d_tb_init_47 : decode prog_1_method_1_code 47 = .ok (.sipush 344, 3) := by decide +kernel
theorem d_tb_init_50 : decode prog_1_method_1_code 50 = .ok (.newarray .int, 2) := by decide +kernel
theorem d_tb_init_52 : decode prog_1_method_1_code 52 = .ok (.putfield 30, 3) := by decide +kernel
theorem d_tb_init_55 : decode prog_1_method_1_code 55 = .ok (.return_, 1) := by decide +kernel
theorem d_tb_letter_0 : decode prog_1_method_2_code 0 = .ok (.iload_n 1, 1) := by decide +kernel
theorem d_tb_letter_1 : decode prog_1_method_2_code 1 = .ok (.bipush 32, 2) := by decide +kernel
theorem d_tb_letter_3 : decode prog_1_method_2_code 3 = .ok (.bipush 126, 2) := by decide +kernel
theorem d_tb_letter_5 : decode prog_1_method_2_code 5 = .ok (.invokestatic 33, 3) := by decide +kernel
theorem d_tb_letter_8 : decode prog_1_method_2_code 8 = .ok (.ifCond .ne 7, 3) := by decide +kernel
theorem d_tb_letter_11 : decode prog_1_method_2_code 11 = .ok (.sipush (-10102), 3) := by decide +kernel
theorem d_tb_letter_14 : decode prog_1_method_2_code 14 = .ok (.ireturn, 1) := by decide +kernel
theorem d_tb_letter_15 : decode prog_1_method_2_code 15 = .ok (.aload_n 0, 1) := by decide +kernel
theorem d_tb_letter_16 : decode prog_1_method_2_code 16 = .ok (.getfield 12, 3) := by decide +kernel
theorem d_tb_letter_19 : decode prog_1_method_2_code 19 = .ok (.getfield 37, 3) := by decide +kernel
theorem d_tb_letter_22 : decode prog_1_method_2_code 22 = .ok (.bipush 96, 2) := by decide +kernel
theorem d_tb_letter_24 : decode prog_1_method_2_code 24 = .ok (.if_icmp .lt 7, 3) := by decide +kernel
theorem d_tb_letter_27 : decode prog_1_method_2_code 27 = .ok (.sipush (-10104), 3) := by decide +kernel
theorem d_tb_letter_30 : decode prog_1_method_2_code 30 = .ok (.ireturn, 1) := by decide +kernel
theorem d_tb_letter_31 : decode prog_1_method_2_code 31 = .ok (.aload_n 0, 1) := by decide +kernel
theorem d_tb_letter_32 : decode prog_1_method_2_code 32 = .ok (.getfield 12, 3) := by decide +kernel
theorem d_tb_letter_35 : decode prog_1_method_2_code 35 = .ok (.getfield 41, 3) := by decide +kernel
theorem d_tb_letter_38 : decode prog_1_method_2_code 38 = .ok (.aload_n 0, 1) := by decide +kernel
theorem d_tb_letter_39 : decode prog_1_method_2_code 39 = .ok (.getfield 12, 3) := by decide +kernel
theorem d_tb_letter_42 : decode prog_1_method_2_code 42 = .ok (.getfield 37, 3) := by decide +kernel
theorem d_tb_letter_45 : decode prog_1_method_2_code 45 = .ok (.iload_n 1, 1) := by decide +kernel
theorem d_tb_letter_46 : decode prog_1_method_2_code 46 = .ok (.iastore, 1) := by decide +kernel
theorem d_tb_letter_47 : decode prog_1_method_2_code 47 = .ok (.aload_n 0, 1) := by decide +kernel
theorem d_tb_letter_48 : decode prog_1_method_2_code 48 = .ok (.getfield 12, 3) := by decide +kernel
theorem d_tb_letter_51 : decode prog_1_method_2_code 51 = .ok (.dup, 1) := by decide +kernel
theorem d_tb_letter_52 : decode prog_1_method_2_code 52 = .ok (.getfield 37, 3) := by decide +kernel
theorem d_tb_letter_55 : decode prog_1_method_2_code 55 = .ok (.iconst 1, 1) := by decide +kernel
theorem d_tb_letter_56 : decode prog_1_method_2_code 56 = .ok (.iadd, 1) := by decide +kernel
theorem d_tb_letter_57 : decode prog_1_method_2_code 57 = .ok (.putfield 37, 3) := by decide +kernel
theorem d_tb_letter_60 : decode prog_1_method_2_code 60 = .ok (.aload_n 0, 1) := by decide +kernel
theorem d_tb_letter_61 : decode prog_1_method_2_code 61 = .ok (.getfield 12, 3) := by decide +kernel
theorem d_tb_letter_64 : decode prog_1_method_2_code 64 = .ok (.getfield 37, 3) := by decide +kernel
theorem d_tb_letter_67 : decode prog_1_method_2_code 67 = .ok (.ireturn, 1) := by decide +kernel
theorem d_tb_blank_0 : decode prog_1_method_3_code 0 = .ok (.aload_n 0, 1) := by decide +kernel
theorem d_tb_blank_1 : decode prog_1_method_3_code 1 = .ok (.getfield 12, 3) := by decide +kernel
theorem d_tb_blank_4 : decode prog_1_method_3_code 4 = .ok (.getfield 37, 3) := by decide +kernel
theorem d_tb_blank_7 : decode prog_1_method_3_code 7 = .ok (.istore_n 1, 1) := by decide +kernel
theorem d_tb_blank_8 : decode prog_1_method_3_code 8 = .ok (.aload_n 0, 1) := by decide +kernel
theorem d_tb_blank_9 : decode prog_1_method_3_code 9 = .ok (.getfield 12, 3) := by decide +kernel
theorem d_tb_blank_12 : decode prog_1_method_3_code 12 = .ok (.iconst 0, 1) := by decide +kernel
theorem d_tb_blank_13 : decode prog_1_method_3_code 13 = .ok (.putfield 37, 3) := by decide +kernel
theorem d_tb_blank_16 : decode prog_1_method_3_code 16 = .ok (.iload_n 1, 1) := by decide +kernel
theorem d_tb_blank_17 : decode prog_1_method_3_code 17 = .ok (.ireturn, 1) := by decide +kernel
theorem d_tb_fault_0 : decode prog_1_method_4_code 0 = .ok (.aload_n 0, 1) := by decide +kernel
theorem d_tb_fault_1 : decode prog_1_method_4_code 1 = .ok (.getfield 12, 3) := by decide +kernel
theorem d_tb_fault_4 : decode prog_1_method_4_code 4 = .ok (.invokevirtual 44, 3) := by decide +kernel
theorem d_tb_fault_7 : decode prog_1_method_4_code 7 = .ok (.ireturn, 1) := by decide +kernel
theorem d_tb_ports_0 : decode prog_1_method_5_code 0 = .ok (.aload_n 0, 1) := by decide +kernel
theorem d_tb_ports_1 : decode prog_1_method_5_code 1 = .ok (.getfield 12, 3) := by decide +kernel
theorem d_tb_ports_4 : decode prog_1_method_5_code 4 = .ok (.invokevirtual 48, 3) := by decide +kernel
theorem d_tb_ports_7 : decode prog_1_method_5_code 7 = .ok (.ifCond .ne 7, 3) := by decide +kernel
theorem d_tb_ports_10 : decode prog_1_method_5_code 10 = .ok (.sipush (-10103), 3) := by decide +kernel
theorem d_tb_ports_13 : decode prog_1_method_5_code 13 = .ok (.ireturn, 1) := by decide +kernel
theorem d_tb_ports_14 : decode prog_1_method_5_code 14 = .ok (.aload_n 0, 1) := by decide +kernel
theorem d_tb_ports_15 : decode prog_1_method_5_code 15 = .ok (.getfield 12, 3) := by decide +kernel
theorem d_tb_ports_18 : decode prog_1_method_5_code 18 = .ok (.aload_n 0, 1) := by decide +kernel
theorem d_tb_ports_19 : decode prog_1_method_5_code 19 = .ok (.getfield 19, 3) := by decide +kernel
theorem d_tb_ports_22 : decode prog_1_method_5_code 22 = .ok (.invokevirtual 52, 3) := by decide +kernel
theorem d_tb_ports_25 : decode prog_1_method_5_code 25 = .ok (.aload_n 0, 1) := by decide +kernel
theorem d_tb_ports_26 : decode prog_1_method_5_code 26 = .ok (.getfield 12, 3) := by decide +kernel
theorem d_tb_ports_29 : decode prog_1_method_5_code 29 = .ok (.iconst 0, 1) := by decide +kernel
theorem d_tb_ports_30 : decode prog_1_method_5_code 30 = .ok (.putfield 37, 3) := by decide +kernel
theorem d_tb_ports_33 : decode prog_1_method_5_code 33 = .ok (.aload_n 0, 1) := by decide +kernel
theorem d_tb_ports_34 : decode prog_1_method_5_code 34 = .ok (.iconst 0, 1) := by decide +kernel
theorem d_tb_ports_35 : decode prog_1_method_5_code 35 = .ok (.putfield 56, 3) := by decide +kernel
theorem d_tb_ports_38 : decode prog_1_method_5_code 38 = .ok (.aload_n 0, 1) := by decide +kernel
theorem d_tb_ports_39 : decode prog_1_method_5_code 39 = .ok (.dup, 1) := by decide +kernel
theorem d_tb_ports_40 : decode prog_1_method_5_code 40 = .ok (.getfield 60, 3) := by decide +kernel
theorem d_tb_ports_43 : decode prog_1_method_5_code 43 = .ok (.iconst 1, 1) := by decide +kernel
theorem d_tb_ports_44 : decode prog_1_method_5_code 44 = .ok (.iadd, 1) := by decide +kernel
theorem d_tb_ports_45 : decode prog_1_method_5_code 45 = .ok (.putfield 60, 3) := by decide +kernel
theorem d_tb_ports_48 : decode prog_1_method_5_code 48 = .ok (.aload_n 0, 1) := by decide +kernel
theorem d_tb_ports_49 : decode prog_1_method_5_code 49 = .ok (.getfield 19, 3) := by decide +kernel
theorem d_tb_ports_52 : decode prog_1_method_5_code 52 = .ok (.getfield 63, 3) := by decide +kernel
theorem d_tb_ports_55 : decode prog_1_method_5_code 55 = .ok (.ireturn, 1) := by decide +kernel
theorem d_tb_port_0 : decode prog_1_method_6_code 0 = .ok (.aload_n 0, 1) := by decide +kernel
theorem d_tb_port_1 : decode prog_1_method_6_code 1 = .ok (.getfield 19, 3) := by decide +kernel
theorem d_tb_port_4 : decode prog_1_method_6_code 4 = .ok (.iload_n 1, 1) := by decide +kernel
theorem d_tb_port_5 : decode prog_1_method_6_code 5 = .ok (.invokevirtual 64, 3) := by decide +kernel
theorem d_tb_port_8 : decode prog_1_method_6_code 8 = .ok (.ifCond .ne 7, 3) := by decide +kernel
theorem d_tb_port_11 : decode prog_1_method_6_code 11 = .ok (.sipush (-10101), 3) := by decide +kernel
theorem d_tb_port_14 : decode prog_1_method_6_code 14 = .ok (.ireturn, 1) := by decide +kernel
theorem d_tb_port_15 : decode prog_1_method_6_code 15 = .ok (.aload_n 0, 1) := by decide +kernel
theorem d_tb_port_16 : decode prog_1_method_6_code 16 = .ok (.getfield 19, 3) := by decide +kernel
theorem d_tb_port_19 : decode prog_1_method_6_code 19 = .ok (.getfield 68, 3) := by decide +kernel
theorem d_tb_port_22 : decode prog_1_method_6_code 22 = .ok (.iload_n 1, 1) := by decide +kernel
theorem d_tb_port_23 : decode prog_1_method_6_code 23 = .ok (.aaload, 1) := by decide +kernel
theorem d_tb_port_24 : decode prog_1_method_6_code 24 = .ok (.astore_n 3, 1) := by decide +kernel
theorem d_tb_port_25 : decode prog_1_method_6_code 25 = .ok (.iload_n 2, 1) := by decide +kernel
theorem d_tb_port_26 : decode prog_1_method_6_code 26 = .ok (.tableswitch 80 0 6 #[42, 47, 52, 57, 62, 67, 72], 42) := by decide +kernel
theorem d_tb_port_68 : decode prog_1_method_6_code 68 = .ok (.aload_n 3, 1) := by decide +kernel
theorem d_tb_port_69 : decode prog_1_method_6_code 69 = .ok (.getfield 72, 3) := by decide +kernel
theorem d_tb_port_72 : decode prog_1_method_6_code 72 = .ok (.ireturn, 1) := by decide +kernel
theorem d_tb_port_73 : decode prog_1_method_6_code 73 = .ok (.aload_n 3, 1) := by decide +kernel
theorem d_tb_port_74 : decode prog_1_method_6_code 74 = .ok (.getfield 77, 3) := by decide +kernel
theorem d_tb_port_77 : decode prog_1_method_6_code 77 = .ok (.ireturn, 1) := by decide +kernel
theorem d_tb_port_78 : decode prog_1_method_6_code 78 = .ok (.aload_n 3, 1) := by decide +kernel
theorem d_tb_port_79 : decode prog_1_method_6_code 79 = .ok (.getfield 80, 3) := by decide +kernel
theorem d_tb_port_82 : decode prog_1_method_6_code 82 = .ok (.ireturn, 1) := by decide +kernel
theorem d_tb_port_83 : decode prog_1_method_6_code 83 = .ok (.aload_n 3, 1) := by decide +kernel
theorem d_tb_port_84 : decode prog_1_method_6_code 84 = .ok (.getfield 83, 3) := by decide +kernel
theorem d_tb_port_87 : decode prog_1_method_6_code 87 = .ok (.ireturn, 1) := by decide +kernel
theorem d_tb_port_88 : decode prog_1_method_6_code 88 = .ok (.aload_n 3, 1) := by decide +kernel
theorem d_tb_port_89 : decode prog_1_method_6_code 89 = .ok (.getfield 86, 3) := by decide +kernel
theorem d_tb_port_92 : decode prog_1_method_6_code 92 = .ok (.ireturn, 1) := by decide +kernel
theorem d_tb_port_93 : decode prog_1_method_6_code 93 = .ok (.aload_n 3, 1) := by decide +kernel
theorem d_tb_port_94 : decode prog_1_method_6_code 94 = .ok (.getfield 87, 3) := by decide +kernel
theorem d_tb_port_97 : decode prog_1_method_6_code 97 = .ok (.ireturn, 1) := by decide +kernel
theorem d_tb_port_98 : decode prog_1_method_6_code 98 = .ok (.aload_n 3, 1) := by decide +kernel
theorem d_tb_port_99 : decode prog_1_method_6_code 99 = .ok (.getfield 87, 3) := by decide +kernel
theorem d_tb_port_102 : decode prog_1_method_6_code 102 = .ok (.invokestatic 90, 3) := by decide +kernel
theorem d_tb_port_105 : decode prog_1_method_6_code 105 = .ok (.ireturn, 1) := by decide +kernel
theorem d_tb_port_106 : decode prog_1_method_6_code 106 = .ok (.sipush (-10102), 3) := by decide +kernel
theorem d_tb_port_109 : decode prog_1_method_6_code 109 = .ok (.ireturn, 1) := by decide +kernel
theorem d_tb_wave_0 : decode prog_1_method_7_code 0 = .ok (.aload_n 0, 1) := by decide +kernel
theorem d_tb_wave_1 : decode prog_1_method_7_code 1 = .ok (.getfield 19, 3) := by decide +kernel
theorem d_tb_wave_4 : decode prog_1_method_7_code 4 = .ok (.iload_n 1, 1) := by decide +kernel
theorem d_tb_wave_5 : decode prog_1_method_7_code 5 = .ok (.invokevirtual 64, 3) := by decide +kernel
theorem d_tb_wave_8 : decode prog_1_method_7_code 8 = .ok (.ifCond .eq 19, 3) := by decide +kernel
theorem d_tb_wave_11 : decode prog_1_method_7_code 11 = .ok (.aload_n 0, 1) := by decide +kernel
theorem d_tb_wave_12 : decode prog_1_method_7_code 12 = .ok (.getfield 19, 3) := by decide +kernel
theorem d_tb_wave_15 : decode prog_1_method_7_code 15 = .ok (.getfield 68, 3) := by decide +kernel
theorem d_tb_wave_18 : decode prog_1_method_7_code 18 = .ok (.iload_n 1, 1) := by decide +kernel
theorem d_tb_wave_19 : decode prog_1_method_7_code 19 = .ok (.aaload, 1) := by decide +kernel
theorem d_tb_wave_20 : decode prog_1_method_7_code 20 = .ok (.iload_n 2, 1) := by decide +kernel
theorem d_tb_wave_21 : decode prog_1_method_7_code 21 = .ok (.invokevirtual 94, 3) := by decide +kernel
theorem d_tb_wave_24 : decode prog_1_method_7_code 24 = .ok (.ifCond .ne 7, 3) := by decide +kernel
theorem d_tb_wave_27 : decode prog_1_method_7_code 27 = .ok (.sipush (-10101), 3) := by decide +kernel
theorem d_tb_wave_30 : decode prog_1_method_7_code 30 = .ok (.ireturn, 1) := by decide +kernel
theorem d_tb_wave_31 : decode prog_1_method_7_code 31 = .ok (.aload_n 0, 1) := by decide +kernel
theorem d_tb_wave_32 : decode prog_1_method_7_code 32 = .ok (.getfield 19, 3) := by decide +kernel
theorem d_tb_wave_35 : decode prog_1_method_7_code 35 = .ok (.getfield 68, 3) := by decide +kernel
theorem d_tb_wave_38 : decode prog_1_method_7_code 38 = .ok (.iload_n 1, 1) := by decide +kernel
theorem d_tb_wave_39 : decode prog_1_method_7_code 39 = .ok (.aaload, 1) := by decide +kernel
theorem d_tb_wave_40 : decode prog_1_method_7_code 40 = .ok (.getfield 97, 3) := by decide +kernel
theorem d_tb_wave_43 : decode prog_1_method_7_code 43 = .ok (.iload_n 2, 1) := by decide +kernel
theorem d_tb_wave_44 : decode prog_1_method_7_code 44 = .ok (.aaload, 1) := by decide +kernel
theorem d_tb_wave_45 : decode prog_1_method_7_code 45 = .ok (.astore 4, 2) := by decide +kernel
theorem d_tb_wave_47 : decode prog_1_method_7_code 47 = .ok (.iload_n 3, 1) := by decide +kernel
theorem d_tb_wave_48 : decode prog_1_method_7_code 48 = .ok (.tableswitch 46 0 2 #[28, 34, 40], 28) := by decide +kernel
theorem d_tb_wave_76 : decode prog_1_method_7_code 76 = .ok (.aload 4, 2) := by decide +kernel
theorem d_tb_wave_78 : decode prog_1_method_7_code 78 = .ok (.getfield 101, 3) := by decide +kernel
theorem d_tb_wave_81 : decode prog_1_method_7_code 81 = .ok (.ireturn, 1) := by decide +kernel
theorem d_tb_wave_82 : decode prog_1_method_7_code 82 = .ok (.aload 4, 2) := by decide +kernel
theorem d_tb_wave_84 : decode prog_1_method_7_code 84 = .ok (.getfield 106, 3) := by decide +kernel
theorem d_tb_wave_87 : decode prog_1_method_7_code 87 = .ok (.ireturn, 1) := by decide +kernel
theorem d_tb_wave_88 : decode prog_1_method_7_code 88 = .ok (.aload 4, 2) := by decide +kernel
theorem d_tb_wave_90 : decode prog_1_method_7_code 90 = .ok (.getfield 109, 3) := by decide +kernel
theorem d_tb_wave_93 : decode prog_1_method_7_code 93 = .ok (.ireturn, 1) := by decide +kernel
theorem d_tb_wave_94 : decode prog_1_method_7_code 94 = .ok (.sipush (-10102), 3) := by decide +kernel
theorem d_tb_wave_97 : decode prog_1_method_7_code 97 = .ok (.ireturn, 1) := by decide +kernel
theorem d_tb_as_0 : decode prog_1_method_8_code 0 = .ok (.aload_n 0, 1) := by decide +kernel
theorem d_tb_as_1 : decode prog_1_method_8_code 1 = .ok (.getfield 19, 3) := by decide +kernel
theorem d_tb_as_4 : decode prog_1_method_8_code 4 = .ok (.iload_n 1, 1) := by decide +kernel
theorem d_tb_as_5 : decode prog_1_method_8_code 5 = .ok (.invokevirtual 64, 3) := by decide +kernel
theorem d_tb_as_8 : decode prog_1_method_8_code 8 = .ok (.ifCond .ne 7, 3) := by decide +kernel
theorem d_tb_as_11 : decode prog_1_method_8_code 11 = .ok (.sipush (-10101), 3) := by decide +kernel
theorem d_tb_as_14 : decode prog_1_method_8_code 14 = .ok (.ireturn, 1) := by decide +kernel
theorem d_tb_as_15 : decode prog_1_method_8_code 15 = .ok (.iload_n 2, 1) := by decide +kernel
theorem d_tb_as_16 : decode prog_1_method_8_code 16 = .ok (.iconst 0, 1) := by decide +kernel
theorem d_tb_as_17 : decode prog_1_method_8_code 17 = .ok (.iconst 4, 1) := by decide +kernel
theorem d_tb_as_18 : decode prog_1_method_8_code 18 = .ok (.invokestatic 33, 3) := by decide +kernel
theorem d_tb_as_21 : decode prog_1_method_8_code 21 = .ok (.ifCond .ne 7, 3) := by decide +kernel
theorem d_tb_as_24 : decode prog_1_method_8_code 24 = .ok (.sipush (-10102), 3) := by decide +kernel
theorem d_tb_as_27 : decode prog_1_method_8_code 27 = .ok (.ireturn, 1) := by decide +kernel
theorem d_tb_as_28 : decode prog_1_method_8_code 28 = .ok (.aload_n 0, 1) := by decide +kernel
theorem d_tb_as_29 : decode prog_1_method_8_code 29 = .ok (.getfield 19, 3) := by decide +kernel
theorem d_tb_as_32 : decode prog_1_method_8_code 32 = .ok (.getfield 68, 3) := by decide +kernel
theorem d_tb_as_35 : decode prog_1_method_8_code 35 = .ok (.iload_n 1, 1) := by decide +kernel
theorem d_tb_as_36 : decode prog_1_method_8_code 36 = .ok (.aaload, 1) := by decide +kernel
theorem d_tb_as_37 : decode prog_1_method_8_code 37 = .ok (.iload_n 2, 1) := by decide +kernel
theorem d_tb_as_38 : decode prog_1_method_8_code 38 = .ok (.invokevirtual 112, 3) := by decide +kernel
theorem d_tb_as_41 : decode prog_1_method_8_code 41 = .ok (.ifCond .eq 7, 3) := by decide +kernel
theorem d_tb_as_44 : decode prog_1_method_8_code 44 = .ok (.iload_n 1, 1) := by decide +kernel
theorem d_tb_as_45 : decode prog_1_method_8_code 45 = .ok (.goto 6, 3) := by decide +kernel
theorem d_tb_as_48 : decode prog_1_method_8_code 48 = .ok (.sipush (-10001), 3) := by decide +kernel
theorem d_tb_as_51 : decode prog_1_method_8_code 51 = .ok (.ireturn, 1) := by decide +kernel
theorem d_tb_round_0 : decode prog_1_method_9_code 0 = .ok (.iload_n 1, 1) := by decide +kernel
theorem d_tb_round_1 : decode prog_1_method_9_code 1 = .ok (.iconst 0, 1) := by decide +kernel
theorem d_tb_round_2 : decode prog_1_method_9_code 2 = .ok (.bipush 64, 2) := by decide +kernel
theorem d_tb_round_4 : decode prog_1_method_9_code 4 = .ok (.invokestatic 33, 3) := by decide +kernel
theorem d_tb_round_7 : decode prog_1_method_9_code 7 = .ok (.ifCond .eq 10, 3) := by decide +kernel
theorem d_tb_round_10 : decode prog_1_method_9_code 10 = .ok (.iload_n 1, 1) := by decide +kernel
theorem d_tb_round_11 : decode prog_1_method_9_code 11 = .ok (.invokestatic 115, 3) := by decide +kernel
theorem d_tb_round_14 : decode prog_1_method_9_code 14 = .ok (.goto 6, 3) := by decide +kernel
theorem d_tb_round_17 : decode prog_1_method_9_code 17 = .ok (.sipush (-10102), 3) := by decide +kernel
theorem d_tb_round_20 : decode prog_1_method_9_code 20 = .ok (.ireturn, 1) := by decide +kernel
theorem d_tb_sum_0 : decode prog_1_method_10_code 0 = .ok (.aload_n 0, 1) := by decide +kernel
theorem d_tb_sum_1 : decode prog_1_method_10_code 1 = .ok (.getfield 19, 3) := by decide +kernel
theorem d_tb_sum_4 : decode prog_1_method_10_code 4 = .ok (.iload_n 1, 1) := by decide +kernel
theorem d_tb_sum_5 : decode prog_1_method_10_code 5 = .ok (.invokevirtual 64, 3) := by decide +kernel
theorem d_tb_sum_8 : decode prog_1_method_10_code 8 = .ok (.ifCond .ne 7, 3) := by decide +kernel
theorem d_tb_sum_11 : decode prog_1_method_10_code 11 = .ok (.sipush (-10101), 3) := by decide +kernel
theorem d_tb_sum_14 : decode prog_1_method_10_code 14 = .ok (.ireturn, 1) := by decide +kernel
theorem d_tb_sum_15 : decode prog_1_method_10_code 15 = .ok (.iload_n 2, 1) := by decide +kernel
theorem d_tb_sum_16 : decode prog_1_method_10_code 16 = .ok (.iconst 0, 1) := by decide +kernel
theorem d_tb_sum_17 : decode prog_1_method_10_code 17 = .ok (.sipush 1439, 3) := by decide +kernel
theorem d_tb_sum_20 : decode prog_1_method_10_code 20 = .ok (.invokestatic 33, 3) := by decide +kernel
theorem d_tb_sum_23 : decode prog_1_method_10_code 23 = .ok (.ifCond .eq 19, 3) := by decide +kernel
theorem d_tb_sum_26 : decode prog_1_method_10_code 26 = .ok (.aload_n 0, 1) := by decide +kernel
theorem d_tb_sum_27 : decode prog_1_method_10_code 27 = .ok (.getfield 19, 3) := by decide +kernel
theorem d_tb_sum_30 : decode prog_1_method_10_code 30 = .ok (.getfield 68, 3) := by decide +kernel
theorem d_tb_sum_33 : decode prog_1_method_10_code 33 = .ok (.iload_n 1, 1) := by decide +kernel
theorem d_tb_sum_34 : decode prog_1_method_10_code 34 = .ok (.aaload, 1) := by decide +kernel
theorem d_tb_sum_35 : decode prog_1_method_10_code 35 = .ok (.iload_n 2, 1) := by decide +kernel
theorem d_tb_sum_36 : decode prog_1_method_10_code 36 = .ok (.invokevirtual 118, 3) := by decide +kernel
theorem d_tb_sum_39 : decode prog_1_method_10_code 39 = .ok (.goto 6, 3) := by decide +kernel
theorem d_tb_sum_42 : decode prog_1_method_10_code 42 = .ok (.sipush (-10102), 3) := by decide +kernel
theorem d_tb_sum_45 : decode prog_1_method_10_code 45 = .ok (.ireturn, 1) := by decide +kernel
theorem d_tb_height_0 : decode prog_1_method_11_code 0 = .ok (.aload_n 0, 1) := by decide +kernel
theorem d_tb_height_1 : decode prog_1_method_11_code 1 = .ok (.getfield 19, 3) := by decide +kernel
theorem d_tb_height_4 : decode prog_1_method_11_code 4 = .ok (.iload_n 1, 1) := by decide +kernel
theorem d_tb_height_5 : decode prog_1_method_11_code 5 = .ok (.invokevirtual 64, 3) := by decide +kernel
theorem d_tb_height_8 : decode prog_1_method_11_code 8 = .ok (.ifCond .ne 7, 3) := by decide +kernel
theorem d_tb_height_11 : decode prog_1_method_11_code 11 = .ok (.sipush (-10101), 3) := by decide +kernel
theorem d_tb_height_14 : decode prog_1_method_11_code 14 = .ok (.ireturn, 1) := by decide +kernel
theorem d_tb_height_15 : decode prog_1_method_11_code 15 = .ok (.iload_n 2, 1) := by decide +kernel
theorem d_tb_height_16 : decode prog_1_method_11_code 16 = .ok (.iconst 0, 1) := by decide +kernel
theorem d_tb_height_17 : decode prog_1_method_11_code 17 = .ok (.sipush 1439, 3) := by decide +kernel
theorem d_tb_height_20 : decode prog_1_method_11_code 20 = .ok (.invokestatic 33, 3) := by decide +kernel
theorem d_tb_height_23 : decode prog_1_method_11_code 23 = .ok (.ifCond .eq 15, 3) := by decide +kernel
theorem d_tb_height_26 : decode prog_1_method_11_code 26 = .ok (.aload_n 0, 1) := by decide +kernel
theorem d_tb_height_27 : decode prog_1_method_11_code 27 = .ok (.getfield 19, 3) := by decide +kernel
theorem d_tb_height_30 : decode prog_1_method_11_code 30 = .ok (.iload_n 1, 1) := by decide +kernel
theorem d_tb_height_31 : decode prog_1_method_11_code 31 = .ok (.iload_n 2, 1) := by decide +kernel
theorem d_tb_height_32 : decode prog_1_method_11_code 32 = .ok (.invokevirtual 121, 3) := by decide +kernel
theorem d_tb_height_35 : decode prog_1_method_11_code 35 = .ok (.goto 6, 3) := by decide +kernel
theorem d_tb_height_38 : decode prog_1_method_11_code 38 = .ok (.sipush (-10102), 3) := by decide +kernel
theorem d_tb_height_41 : decode prog_1_method_11_code 41 = .ok (.ireturn, 1) := by decide +kernel
theorem d_tb_tide_0 : decode prog_1_method_12_code 0 = .ok (.aload_n 0, 1) := by decide +kernel
theorem d_tb_tide_1 : decode prog_1_method_12_code 1 = .ok (.getfield 19, 3) := by decide +kernel
theorem d_tb_tide_4 : decode prog_1_method_12_code 4 = .ok (.iload_n 1, 1) := by decide +kernel
theorem d_tb_tide_5 : decode prog_1_method_12_code 5 = .ok (.invokevirtual 64, 3) := by decide +kernel
theorem d_tb_tide_8 : decode prog_1_method_12_code 8 = .ok (.ifCond .ne 7, 3) := by decide +kernel
theorem d_tb_tide_11 : decode prog_1_method_12_code 11 = .ok (.sipush (-10101), 3) := by decide +kernel
theorem d_tb_tide_14 : decode prog_1_method_12_code 14 = .ok (.ireturn, 1) := by decide +kernel
theorem d_tb_tide_15 : decode prog_1_method_12_code 15 = .ok (.iload_n 2, 1) := by decide +kernel
theorem d_tb_tide_16 : decode prog_1_method_12_code 16 = .ok (.iconst 0, 1) := by decide +kernel
theorem d_tb_tide_17 : decode prog_1_method_12_code 17 = .ok (.bipush 9, 2) := by decide +kernel
theorem d_tb_tide_19 : decode prog_1_method_12_code 19 = .ok (.invokestatic 33, 3) := by decide +kernel
theorem d_tb_tide_22 : decode prog_1_method_12_code 22 = .ok (.ifCond .ne 7, 3) := by decide +kernel
theorem d_tb_tide_25 : decode prog_1_method_12_code 25 = .ok (.sipush (-10102), 3) := by decide +kernel
theorem d_tb_tide_28 : decode prog_1_method_12_code 28 = .ok (.ireturn, 1) := by decide +kernel
theorem d_tb_tide_29 : decode prog_1_method_12_code 29 = .ok (.iload_n 2, 1) := by decide +kernel
theorem d_tb_tide_30 : decode prog_1_method_12_code 30 = .ok (.sipush 144, 3) := by decide +kernel
theorem d_tb_tide_33 : decode prog_1_method_12_code 33 = .ok (.imul, 1) := by decide +kernel
theorem d_tb_tide_34 : decode prog_1_method_12_code 34 = .ok (.iconst 1, 1) := by decide +kernel
theorem d_tb_tide_35 : decode prog_1_method_12_code 35 = .ok (.isub, 1) := by decide +kernel
theorem d_tb_tide_36 : decode prog_1_method_12_code 36 = .ok (.istore 5, 2) := by decide +kernel
theorem d_tb_tide_38 : decode prog_1_method_12_code 38 = .ok (.aload_n 0, 1) := by decide +kernel
theorem d_tb_tide_39 : decode prog_1_method_12_code 39 = .ok (.getfield 19, 3) := by decide +kernel
theorem d_tb_tide_42 : decode prog_1_method_12_code 42 = .ok (.aload_n 0, 1) := by decide +kernel
theorem d_tb_tide_43 : decode prog_1_method_12_code 43 = .ok (.getfield 26, 3) := by decide +kernel
theorem d_tb_tide_46 : decode prog_1_method_12_code 46 = .ok (.iload_n 1, 1) := by decide +kernel
theorem d_tb_tide_47 : decode prog_1_method_12_code 47 = .ok (.iload 5, 2) := by decide +kernel
theorem d_tb_tide_49 : decode prog_1_method_12_code 49 = .ok (.sipush 289, 3) := by decide +kernel
theorem d_tb_tide_52 : decode prog_1_method_12_code 52 = .ok (.invokevirtual 125, 3) := by decide +kernel
theorem d_tb_tide_55 : decode prog_1_method_12_code 55 = .ok (.aload_n 0, 1) := by decide +kernel
theorem d_tb_tide_56 : decode prog_1_method_12_code 56 = .ok (.iload_n 3, 1) := by decide +kernel
theorem d_tb_tide_57 : decode prog_1_method_12_code 57 = .ok (.invokevirtual 129, 3) := by decide +kernel
theorem d_tb_tide_60 : decode prog_1_method_12_code 60 = .ok (.istore 6, 2) := by decide +kernel
theorem d_tb_tide_62 : decode prog_1_method_12_code 62 = .ok (.iload 6, 2) := by decide +kernel
theorem d_tb_tide_64 : decode prog_1_method_12_code 64 = .ok (.sipush (-10001), 3) := by decide +kernel
theorem d_tb_tide_67 : decode prog_1_method_12_code 67 = .ok (.if_icmp .ne 7, 3) := by decide +kernel
theorem d_tb_tide_70 : decode prog_1_method_12_code 70 = .ok (.sipush (-10101), 3) := by decide +kernel
theorem d_tb_tide_73 : decode prog_1_method_12_code 73 = .ok (.ireturn, 1) := by decide +kernel
theorem d_tb_tide_74 : decode prog_1_method_12_code 74 = .ok (.iload 4, 2) := by decide +kernel
theorem d_tb_tide_76 : decode prog_1_method_12_code 76 = .ok (.tableswitch 57 0 2 #[28, 34, 49], 28) := by decide +kernel
theorem d_tb_tide_104 : decode prog_1_method_12_code 104 = .ok (.iload 5, 2) := by decide +kernel
theorem d_tb_tide_106 : decode prog_1_method_12_code 106 = .ok (.iload 6, 2) := by decide +kernel
theorem d_tb_tide_108 : decode prog_1_method_12_code 108 = .ok (.iadd, 1) := by decide +kernel
theorem d_tb_tide_109 : decode prog_1_method_12_code 109 = .ok (.ireturn, 1) := by decide +kernel
theorem d_tb_tide_110 : decode prog_1_method_12_code 110 = .ok (.aload_n 0, 1) := by decide +kernel
theorem d_tb_tide_111 : decode prog_1_method_12_code 111 = .ok (.iload 6, 2) := by decide +kernel
theorem d_tb_tide_113 : decode prog_1_method_12_code 113 = .ok (.invokevirtual 132, 3) := by decide +kernel
theorem d_tb_tide_116 : decode prog_1_method_12_code 116 = .ok (.ifCond .le 7, 3) := by decide +kernel
theorem d_tb_tide_119 : decode prog_1_method_12_code 119 = .ok (.iconst 1, 1) := by decide +kernel
theorem d_tb_tide_120 : decode prog_1_method_12_code 120 = .ok (.goto 4, 3) := by decide +kernel
theorem d_tb_tide_123 : decode prog_1_method_12_code 123 = .ok (.iconst 0, 1) := by decide +kernel
theorem d_tb_tide_124 : decode prog_1_method_12_code 124 = .ok (.ireturn, 1) := by decide +kernel
theorem d_tb_tide_125 : decode prog_1_method_12_code 125 = .ok (.aload_n 0, 1) := by decide +kernel
theorem d_tb_tide_126 : decode prog_1_method_12_code 126 = .ok (.getfield 26, 3) := by decide +kernel
theorem d_tb_tide_129 : decode prog_1_method_12_code 129 = .ok (.iload 6, 2) := by decide +kernel
theorem d_tb_tide_131 : decode prog_1_method_12_code 131 = .ok (.iaload, 1) := by decide +kernel
theorem d_tb_tide_132 : decode prog_1_method_12_code 132 = .ok (.ireturn, 1) := by decide +kernel
theorem d_tb_tide_133 : decode prog_1_method_12_code 133 = .ok (.sipush (-10102), 3) := by decide +kernel
theorem d_tb_tide_136 : decode prog_1_method_12_code 136 = .ok (.ireturn, 1) := by decide +kernel
theorem d_tb_gate_0 : decode prog_1_method_13_code 0 = .ok (.aload_n 0, 1) := by decide +kernel
theorem d_tb_gate_1 : decode prog_1_method_13_code 1 = .ok (.getfield 19, 3) := by decide +kernel
theorem d_tb_gate_4 : decode prog_1_method_13_code 4 = .ok (.iload_n 1, 1) := by decide +kernel
theorem d_tb_gate_5 : decode prog_1_method_13_code 5 = .ok (.invokevirtual 64, 3) := by decide +kernel
theorem d_tb_gate_8 : decode prog_1_method_13_code 8 = .ok (.ifCond .ne 7, 3) := by decide +kernel
theorem d_tb_gate_11 : decode prog_1_method_13_code 11 = .ok (.sipush (-10101), 3) := by decide +kernel
theorem d_tb_gate_14 : decode prog_1_method_13_code 14 = .ok (.ireturn, 1) := by decide +kernel
theorem d_tb_gate_15 : decode prog_1_method_13_code 15 = .ok (.iload_n 2, 1) := by decide +kernel
theorem d_tb_gate_16 : decode prog_1_method_13_code 16 = .ok (.iconst 0, 1) := by decide +kernel
theorem d_tb_gate_17 : decode prog_1_method_13_code 17 = .ok (.bipush 9, 2) := by decide +kernel
theorem d_tb_gate_19 : decode prog_1_method_13_code 19 = .ok (.invokestatic 33, 3) := by decide +kernel
theorem d_tb_gate_22 : decode prog_1_method_13_code 22 = .ok (.ifCond .eq 16, 3) := by decide +kernel
theorem d_tb_gate_25 : decode prog_1_method_13_code 25 = .ok (.iload_n 3, 1) := by decide +kernel
theorem d_tb_gate_26 : decode prog_1_method_13_code 26 = .ok (.sipush (-2000), 3) := by decide +kernel
theorem d_tb_gate_29 : decode prog_1_method_13_code 29 = .ok (.sipush 4000, 3) := by decide +kernel
theorem d_tb_gate_32 : decode prog_1_method_13_code 32 = .ok (.invokestatic 33, 3) := by decide +kernel
theorem d_tb_gate_35 : decode prog_1_method_13_code 35 = .ok (.ifCond .ne 7, 3) := by decide +kernel
theorem d_tb_gate_38 : decode prog_1_method_13_code 38 = .ok (.sipush (-10102), 3) := by decide +kernel
theorem d_tb_gate_41 : decode prog_1_method_13_code 41 = .ok (.ireturn, 1) := by decide +kernel
theorem d_tb_gate_42 : decode prog_1_method_13_code 42 = .ok (.aload_n 0, 1) := by decide +kernel
theorem d_tb_gate_43 : decode prog_1_method_13_code 43 = .ok (.getfield 19, 3) := by decide +kernel
theorem d_tb_gate_46 : decode prog_1_method_13_code 46 = .ok (.aload_n 0, 1) := by decide +kernel
theorem d_tb_gate_47 : decode prog_1_method_13_code 47 = .ok (.getfield 26, 3) := by decide +kernel
theorem d_tb_gate_50 : decode prog_1_method_13_code 50 = .ok (.iload_n 1, 1) := by decide +kernel
theorem d_tb_gate_51 : decode prog_1_method_13_code 51 = .ok (.iload_n 2, 1) := by decide +kernel
end
section
theorem d_tb_gate_52 : decode prog_1_method_13_code 52 = .ok (.sipush 144, 3) := by decide +kernel
theorem d_tb_gate_55 : decode prog_1_method_13_code 55 = .ok (.imul, 1) := by decide +kernel
theorem d_tb_gate_56 : decode prog_1_method_13_code 56 = .ok (.sipush 144, 3) := by decide +kernel
theorem d_tb_gate_59 : decode prog_1_method_13_code 59 = .ok (.invokevirtual 125, 3) := by decide +kernel
theorem d_tb_gate_62 : decode prog_1_method_13_code 62 = .ok (.aload_n 0, 1) := by decide +kernel
theorem d_tb_gate_63 : decode prog_1_method_13_code 63 = .ok (.iload_n 3, 1) := by decide +kernel
theorem d_tb_gate_64 : decode prog_1_method_13_code 64 = .ok (.iload 4, 2) := by decide +kernel
theorem d_tb_gate_66 : decode prog_1_method_13_code 66 = .ok (.invokevirtual 135, 3) := by decide +kernel
theorem d_tb_gate_69 : decode prog_1_method_13_code 69 = .ok (.istore 6, 2) := by decide +kernel
theorem d_tb_gate_71 : decode prog_1_method_13_code 71 = .ok (.iload 6, 2) := by decide +kernel
theorem d_tb_gate_73 : decode prog_1_method_13_code 73 = .ok (.sipush (-10001), 3) := by decide +kernel
theorem d_tb_gate_76 : decode prog_1_method_13_code 76 = .ok (.if_icmp .ne 7, 3) := by decide +kernel
theorem d_tb_gate_79 : decode prog_1_method_13_code 79 = .ok (.sipush (-10101), 3) := by decide +kernel
theorem d_tb_gate_82 : decode prog_1_method_13_code 82 = .ok (.ireturn, 1) := by decide +kernel
theorem d_tb_gate_83 : decode prog_1_method_13_code 83 = .ok (.iload 5, 2) := by decide +kernel
theorem d_tb_gate_85 : decode prog_1_method_13_code 85 = .ok (.lookupswitch 50 #[(0, 27), (1, 36)], 27) := by decide +kernel
theorem d_tb_gate_112 : decode prog_1_method_13_code 112 = .ok (.iload_n 2, 1) := by decide +kernel
theorem d_tb_gate_113 : decode prog_1_method_13_code 113 = .ok (.sipush 144, 3) := by decide +kernel
theorem d_tb_gate_116 : decode prog_1_method_13_code 116 = .ok (.imul, 1) := by decide +kernel
theorem d_tb_gate_117 : decode prog_1_method_13_code 117 = .ok (.iload 6, 2) := by decide +kernel
theorem d_tb_gate_119 : decode prog_1_method_13_code 119 = .ok (.iadd, 1) := by decide +kernel
theorem d_tb_gate_120 : decode prog_1_method_13_code 120 = .ok (.ireturn, 1) := by decide +kernel
theorem d_tb_gate_121 : decode prog_1_method_13_code 121 = .ok (.iload_n 2, 1) := by decide +kernel
theorem d_tb_gate_122 : decode prog_1_method_13_code 122 = .ok (.sipush 144, 3) := by decide +kernel
theorem d_tb_gate_125 : decode prog_1_method_13_code 125 = .ok (.imul, 1) := by decide +kernel
theorem d_tb_gate_126 : decode prog_1_method_13_code 126 = .ok (.aload_n 0, 1) := by decide +kernel
theorem d_tb_gate_127 : decode prog_1_method_13_code 127 = .ok (.iload_n 3, 1) := by decide +kernel
theorem d_tb_gate_128 : decode prog_1_method_13_code 128 = .ok (.iload 6, 2) := by decide +kernel
theorem d_tb_gate_130 : decode prog_1_method_13_code 130 = .ok (.invokevirtual 138, 3) := by decide +kernel
theorem d_tb_gate_133 : decode prog_1_method_13_code 133 = .ok (.iadd, 1) := by decide +kernel
theorem d_tb_gate_134 : decode prog_1_method_13_code 134 = .ok (.ireturn, 1) := by decide +kernel
theorem d_tb_gate_135 : decode prog_1_method_13_code 135 = .ok (.sipush (-10102), 3) := by decide +kernel
theorem d_tb_gate_138 : decode prog_1_method_13_code 138 = .ok (.ireturn, 1) := by decide +kernel
theorem d_tb_dry_0 : decode prog_1_method_14_code 0 = .ok (.aload_n 0, 1) := by decide +kernel
theorem d_tb_dry_1 : decode prog_1_method_14_code 1 = .ok (.getfield 19, 3) := by decide +kernel
theorem d_tb_dry_4 : decode prog_1_method_14_code 4 = .ok (.iload_n 1, 1) := by decide +kernel
theorem d_tb_dry_5 : decode prog_1_method_14_code 5 = .ok (.invokevirtual 64, 3) := by decide +kernel
theorem d_tb_dry_8 : decode prog_1_method_14_code 8 = .ok (.ifCond .ne 7, 3) := by decide +kernel
theorem d_tb_dry_11 : decode prog_1_method_14_code 11 = .ok (.sipush (-10101), 3) := by decide +kernel
theorem d_tb_dry_14 : decode prog_1_method_14_code 14 = .ok (.ireturn, 1) := by decide +kernel
theorem d_tb_dry_15 : decode prog_1_method_14_code 15 = .ok (.iload_n 2, 1) := by decide +kernel
theorem d_tb_dry_16 : decode prog_1_method_14_code 16 = .ok (.iconst 0, 1) := by decide +kernel
theorem d_tb_dry_17 : decode prog_1_method_14_code 17 = .ok (.bipush 9, 2) := by decide +kernel
theorem d_tb_dry_19 : decode prog_1_method_14_code 19 = .ok (.invokestatic 33, 3) := by decide +kernel
theorem d_tb_dry_22 : decode prog_1_method_14_code 22 = .ok (.ifCond .eq 16, 3) := by decide +kernel
theorem d_tb_dry_25 : decode prog_1_method_14_code 25 = .ok (.iload_n 3, 1) := by decide +kernel
theorem d_tb_dry_26 : decode prog_1_method_14_code 26 = .ok (.sipush (-2000), 3) := by decide +kernel
theorem d_tb_dry_29 : decode prog_1_method_14_code 29 = .ok (.sipush 4000, 3) := by decide +kernel
theorem d_tb_dry_32 : decode prog_1_method_14_code 32 = .ok (.invokestatic 33, 3) := by decide +kernel
theorem d_tb_dry_35 : decode prog_1_method_14_code 35 = .ok (.ifCond .ne 7, 3) := by decide +kernel
theorem d_tb_dry_38 : decode prog_1_method_14_code 38 = .ok (.sipush (-10102), 3) := by decide +kernel
theorem d_tb_dry_41 : decode prog_1_method_14_code 41 = .ok (.ireturn, 1) := by decide +kernel
theorem d_tb_dry_42 : decode prog_1_method_14_code 42 = .ok (.aload_n 0, 1) := by decide +kernel
theorem d_tb_dry_43 : decode prog_1_method_14_code 43 = .ok (.getfield 19, 3) := by decide +kernel
theorem d_tb_dry_46 : decode prog_1_method_14_code 46 = .ok (.aload_n 0, 1) := by decide +kernel
theorem d_tb_dry_47 : decode prog_1_method_14_code 47 = .ok (.getfield 26, 3) := by decide +kernel
theorem d_tb_dry_50 : decode prog_1_method_14_code 50 = .ok (.iload_n 1, 1) := by decide +kernel
theorem d_tb_dry_51 : decode prog_1_method_14_code 51 = .ok (.iload_n 2, 1) := by decide +kernel
theorem d_tb_dry_52 : decode prog_1_method_14_code 52 = .ok (.sipush 144, 3) := by decide +kernel
theorem d_tb_dry_55 : decode prog_1_method_14_code 55 = .ok (.imul, 1) := by decide +kernel
theorem d_tb_dry_56 : decode prog_1_method_14_code 56 = .ok (.sipush 144, 3) := by decide +kernel
theorem d_tb_dry_59 : decode prog_1_method_14_code 59 = .ok (.invokevirtual 125, 3) := by decide +kernel
theorem d_tb_dry_62 : decode prog_1_method_14_code 62 = .ok (.iconst 0, 1) := by decide +kernel
theorem d_tb_dry_63 : decode prog_1_method_14_code 63 = .ok (.istore 4, 2) := by decide +kernel
theorem d_tb_dry_65 : decode prog_1_method_14_code 65 = .ok (.iconst 0, 1) := by decide +kernel
theorem d_tb_dry_66 : decode prog_1_method_14_code 66 = .ok (.istore 5, 2) := by decide +kernel
theorem d_tb_dry_68 : decode prog_1_method_14_code 68 = .ok (.iload 5, 2) := by decide +kernel
theorem d_tb_dry_70 : decode prog_1_method_14_code 70 = .ok (.sipush 144, 3) := by decide +kernel
theorem d_tb_dry_73 : decode prog_1_method_14_code 73 = .ok (.if_icmp .ge 23, 3) := by decide +kernel
theorem d_tb_dry_76 : decode prog_1_method_14_code 76 = .ok (.aload_n 0, 1) := by decide +kernel
theorem d_tb_dry_77 : decode prog_1_method_14_code 77 = .ok (.getfield 26, 3) := by decide +kernel
theorem d_tb_dry_80 : decode prog_1_method_14_code 80 = .ok (.iload 5, 2) := by decide +kernel
theorem d_tb_dry_82 : decode prog_1_method_14_code 82 = .ok (.iaload, 1) := by decide +kernel
theorem d_tb_dry_83 : decode prog_1_method_14_code 83 = .ok (.iload_n 3, 1) := by decide +kernel
theorem d_tb_dry_84 : decode prog_1_method_14_code 84 = .ok (.if_icmp .ge 6, 3) := by decide +kernel
theorem d_tb_dry_87 : decode prog_1_method_14_code 87 = .ok (.iinc 4 1, 3) := by decide +kernel
theorem d_tb_dry_90 : decode prog_1_method_14_code 90 = .ok (.iinc 5 1, 3) := by decide +kernel
theorem d_tb_dry_93 : decode prog_1_method_14_code 93 = .ok (.goto (-25), 3) := by decide +kernel
theorem d_tb_dry_96 : decode prog_1_method_14_code 96 = .ok (.iload 4, 2) := by decide +kernel
theorem d_tb_dry_98 : decode prog_1_method_14_code 98 = .ok (.ireturn, 1) := by decide +kernel
theorem d_tb_stream_0 : decode prog_1_method_15_code 0 = .ok (.aload_n 0, 1) := by decide +kernel
theorem d_tb_stream_1 : decode prog_1_method_15_code 1 = .ok (.getfield 19, 3) := by decide +kernel
theorem d_tb_stream_4 : decode prog_1_method_15_code 4 = .ok (.iload_n 1, 1) := by decide +kernel
theorem d_tb_stream_5 : decode prog_1_method_15_code 5 = .ok (.invokevirtual 64, 3) := by decide +kernel
theorem d_tb_stream_8 : decode prog_1_method_15_code 8 = .ok (.ifCond .eq 14, 3) := by decide +kernel
theorem d_tb_stream_11 : decode prog_1_method_15_code 11 = .ok (.aload_n 0, 1) := by decide +kernel
theorem d_tb_stream_12 : decode prog_1_method_15_code 12 = .ok (.getfield 19, 3) := by decide +kernel
theorem d_tb_stream_15 : decode prog_1_method_15_code 15 = .ok (.iload_n 2, 1) := by decide +kernel
theorem d_tb_stream_16 : decode prog_1_method_15_code 16 = .ok (.invokevirtual 64, 3) := by decide +kernel
theorem d_tb_stream_19 : decode prog_1_method_15_code 19 = .ok (.ifCond .ne 7, 3) := by decide +kernel
theorem d_tb_stream_22 : decode prog_1_method_15_code 22 = .ok (.sipush (-10101), 3) := by decide +kernel
theorem d_tb_stream_25 : decode prog_1_method_15_code 25 = .ok (.ireturn, 1) := by decide +kernel
theorem d_tb_stream_26 : decode prog_1_method_15_code 26 = .ok (.iload_n 3, 1) := by decide +kernel
theorem d_tb_stream_27 : decode prog_1_method_15_code 27 = .ok (.iconst 0, 1) := by decide +kernel
theorem d_tb_stream_28 : decode prog_1_method_15_code 28 = .ok (.sipush 1439, 3) := by decide +kernel
theorem d_tb_stream_31 : decode prog_1_method_15_code 31 = .ok (.invokestatic 33, 3) := by decide +kernel
theorem d_tb_stream_34 : decode prog_1_method_15_code 34 = .ok (.ifCond .ne 7, 3) := by decide +kernel
theorem d_tb_stream_37 : decode prog_1_method_15_code 37 = .ok (.sipush (-10102), 3) := by decide +kernel
theorem d_tb_stream_40 : decode prog_1_method_15_code 40 = .ok (.ireturn, 1) := by decide +kernel
theorem d_tb_stream_41 : decode prog_1_method_15_code 41 = .ok (.aload_n 0, 1) := by decide +kernel
theorem d_tb_stream_42 : decode prog_1_method_15_code 42 = .ok (.getfield 19, 3) := by decide +kernel
theorem d_tb_stream_45 : decode prog_1_method_15_code 45 = .ok (.iload_n 1, 1) := by decide +kernel
theorem d_tb_stream_46 : decode prog_1_method_15_code 46 = .ok (.iload_n 3, 1) := by decide +kernel
theorem d_tb_stream_47 : decode prog_1_method_15_code 47 = .ok (.invokevirtual 121, 3) := by decide +kernel
theorem d_tb_stream_50 : decode prog_1_method_15_code 50 = .ok (.aload_n 0, 1) := by decide +kernel
theorem d_tb_stream_51 : decode prog_1_method_15_code 51 = .ok (.getfield 19, 3) := by decide +kernel
theorem d_tb_stream_54 : decode prog_1_method_15_code 54 = .ok (.iload_n 2, 1) := by decide +kernel
theorem d_tb_stream_55 : decode prog_1_method_15_code 55 = .ok (.iload_n 3, 1) := by decide +kernel
theorem d_tb_stream_56 : decode prog_1_method_15_code 56 = .ok (.invokevirtual 121, 3) := by decide +kernel
theorem d_tb_stream_59 : decode prog_1_method_15_code 59 = .ok (.isub, 1) := by decide +kernel
theorem d_tb_stream_60 : decode prog_1_method_15_code 60 = .ok (.ireturn, 1) := by decide +kernel
theorem d_tb_slack_0 : decode prog_1_method_16_code 0 = .ok (.aload_n 0, 1) := by decide +kernel
theorem d_tb_slack_1 : decode prog_1_method_16_code 1 = .ok (.getfield 19, 3) := by decide +kernel
theorem d_tb_slack_4 : decode prog_1_method_16_code 4 = .ok (.iload_n 1, 1) := by decide +kernel
theorem d_tb_slack_5 : decode prog_1_method_16_code 5 = .ok (.invokevirtual 64, 3) := by decide +kernel
theorem d_tb_slack_8 : decode prog_1_method_16_code 8 = .ok (.ifCond .eq 14, 3) := by decide +kernel
theorem d_tb_slack_11 : decode prog_1_method_16_code 11 = .ok (.aload_n 0, 1) := by decide +kernel
theorem d_tb_slack_12 : decode prog_1_method_16_code 12 = .ok (.getfield 19, 3) := by decide +kernel
theorem d_tb_slack_15 : decode prog_1_method_16_code 15 = .ok (.iload_n 2, 1) := by decide +kernel
theorem d_tb_slack_16 : decode prog_1_method_16_code 16 = .ok (.invokevirtual 64, 3) := by decide +kernel
theorem d_tb_slack_19 : decode prog_1_method_16_code 19 = .ok (.ifCond .ne 7, 3) := by decide +kernel
theorem d_tb_slack_22 : decode prog_1_method_16_code 22 = .ok (.sipush (-10101), 3) := by decide +kernel
theorem d_tb_slack_25 : decode prog_1_method_16_code 25 = .ok (.ireturn, 1) := by decide +kernel
theorem d_tb_slack_26 : decode prog_1_method_16_code 26 = .ok (.iload_n 3, 1) := by decide +kernel
theorem d_tb_slack_27 : decode prog_1_method_16_code 27 = .ok (.iconst 0, 1) := by decide +kernel
theorem d_tb_slack_28 : decode prog_1_method_16_code 28 = .ok (.sipush 1439, 3) := by decide +kernel
theorem d_tb_slack_31 : decode prog_1_method_16_code 31 = .ok (.invokestatic 33, 3) := by decide +kernel
theorem d_tb_slack_34 : decode prog_1_method_16_code 34 = .ok (.ifCond .ne 7, 3) := by decide +kernel
theorem d_tb_slack_37 : decode prog_1_method_16_code 37 = .ok (.sipush (-10102), 3) := by decide +kernel
theorem d_tb_slack_40 : decode prog_1_method_16_code 40 = .ok (.ireturn, 1) := by decide +kernel
theorem d_tb_slack_41 : decode prog_1_method_16_code 41 = .ok (.iload_n 3, 1) := by decide +kernel
theorem d_tb_slack_42 : decode prog_1_method_16_code 42 = .ok (.iconst 1, 1) := by decide +kernel
theorem d_tb_slack_43 : decode prog_1_method_16_code 43 = .ok (.isub, 1) := by decide +kernel
theorem d_tb_slack_44 : decode prog_1_method_16_code 44 = .ok (.istore 4, 2) := by decide +kernel
theorem d_tb_slack_46 : decode prog_1_method_16_code 46 = .ok (.aload_n 0, 1) := by decide +kernel
theorem d_tb_slack_47 : decode prog_1_method_16_code 47 = .ok (.getfield 19, 3) := by decide +kernel
theorem d_tb_slack_50 : decode prog_1_method_16_code 50 = .ok (.aload_n 0, 1) := by decide +kernel
theorem d_tb_slack_51 : decode prog_1_method_16_code 51 = .ok (.getfield 26, 3) := by decide +kernel
theorem d_tb_slack_54 : decode prog_1_method_16_code 54 = .ok (.iload_n 1, 1) := by decide +kernel
theorem d_tb_slack_55 : decode prog_1_method_16_code 55 = .ok (.iload 4, 2) := by decide +kernel
theorem d_tb_slack_57 : decode prog_1_method_16_code 57 = .ok (.sipush 145, 3) := by decide +kernel
theorem d_tb_slack_60 : decode prog_1_method_16_code 60 = .ok (.invokevirtual 125, 3) := by decide +kernel
theorem d_tb_slack_63 : decode prog_1_method_16_code 63 = .ok (.aload_n 0, 1) := by decide +kernel
theorem d_tb_slack_64 : decode prog_1_method_16_code 64 = .ok (.getfield 19, 3) := by decide +kernel
theorem d_tb_slack_67 : decode prog_1_method_16_code 67 = .ok (.aload_n 0, 1) := by decide +kernel
theorem d_tb_slack_68 : decode prog_1_method_16_code 68 = .ok (.getfield 30, 3) := by decide +kernel
theorem d_tb_slack_71 : decode prog_1_method_16_code 71 = .ok (.iload_n 2, 1) := by decide +kernel
theorem d_tb_slack_72 : decode prog_1_method_16_code 72 = .ok (.iload 4, 2) := by decide +kernel
theorem d_tb_slack_74 : decode prog_1_method_16_code 74 = .ok (.sipush 145, 3) := by decide +kernel
theorem d_tb_slack_77 : decode prog_1_method_16_code 77 = .ok (.invokevirtual 125, 3) := by decide +kernel
theorem d_tb_slack_80 : decode prog_1_method_16_code 80 = .ok (.iconst 1, 1) := by decide +kernel
theorem d_tb_slack_81 : decode prog_1_method_16_code 81 = .ok (.istore 5, 2) := by decide +kernel
theorem d_tb_slack_83 : decode prog_1_method_16_code 83 = .ok (.iload 5, 2) := by decide +kernel
theorem d_tb_slack_85 : decode prog_1_method_16_code 85 = .ok (.sipush 144, 3) := by decide +kernel
theorem d_tb_slack_88 : decode prog_1_method_16_code 88 = .ok (.if_icmp .gt 78, 3) := by decide +kernel
theorem d_tb_slack_91 : decode prog_1_method_16_code 91 = .ok (.aload_n 0, 1) := by decide +kernel
theorem d_tb_slack_92 : decode prog_1_method_16_code 92 = .ok (.getfield 26, 3) := by decide +kernel
theorem d_tb_slack_95 : decode prog_1_method_16_code 95 = .ok (.iload 5, 2) := by decide +kernel
theorem d_tb_slack_97 : decode prog_1_method_16_code 97 = .ok (.iconst 1, 1) := by decide +kernel
theorem d_tb_slack_98 : decode prog_1_method_16_code 98 = .ok (.isub, 1) := by decide +kernel
theorem d_tb_slack_99 : decode prog_1_method_16_code 99 = .ok (.iaload, 1) := by decide +kernel
theorem d_tb_slack_100 : decode prog_1_method_16_code 100 = .ok (.aload_n 0, 1) := by decide +kernel
theorem d_tb_slack_101 : decode prog_1_method_16_code 101 = .ok (.getfield 30, 3) := by decide +kernel
theorem d_tb_slack_104 : decode prog_1_method_16_code 104 = .ok (.iload 5, 2) := by decide +kernel
theorem d_tb_slack_106 : decode prog_1_method_16_code 106 = .ok (.iconst 1, 1) := by decide +kernel
theorem d_tb_slack_107 : decode prog_1_method_16_code 107 = .ok (.isub, 1) := by decide +kernel
theorem d_tb_slack_108 : decode prog_1_method_16_code 108 = .ok (.iaload, 1) := by decide +kernel
theorem d_tb_slack_109 : decode prog_1_method_16_code 109 = .ok (.isub, 1) := by decide +kernel
theorem d_tb_slack_110 : decode prog_1_method_16_code 110 = .ok (.istore 6, 2) := by decide +kernel
theorem d_tb_slack_112 : decode prog_1_method_16_code 112 = .ok (.aload_n 0, 1) := by decide +kernel
theorem d_tb_slack_113 : decode prog_1_method_16_code 113 = .ok (.getfield 26, 3) := by decide +kernel
theorem d_tb_slack_116 : decode prog_1_method_16_code 116 = .ok (.iload 5, 2) := by decide +kernel
theorem d_tb_slack_118 : decode prog_1_method_16_code 118 = .ok (.iaload, 1) := by decide +kernel
theorem d_tb_slack_119 : decode prog_1_method_16_code 119 = .ok (.aload_n 0, 1) := by decide +kernel
theorem d_tb_slack_120 : decode prog_1_method_16_code 120 = .ok (.getfield 30, 3) := by decide +kernel
theorem d_tb_slack_123 : decode prog_1_method_16_code 123 = .ok (.iload 5, 2) := by decide +kernel
theorem d_tb_slack_125 : decode prog_1_method_16_code 125 = .ok (.iaload, 1) := by decide +kernel
theorem d_tb_slack_126 : decode prog_1_method_16_code 126 = .ok (.isub, 1) := by decide +kernel
theorem d_tb_slack_127 : decode prog_1_method_16_code 127 = .ok (.istore 7, 2) := by decide +kernel
theorem d_tb_slack_129 : decode prog_1_method_16_code 129 = .ok (.iload 7, 2) := by decide +kernel
theorem d_tb_slack_131 : decode prog_1_method_16_code 131 = .ok (.ifCond .eq 23, 3) := by decide +kernel
theorem d_tb_slack_134 : decode prog_1_method_16_code 134 = .ok (.iload 7, 2) := by decide +kernel
theorem d_tb_slack_136 : decode prog_1_method_16_code 136 = .ok (.ifCond .le 8, 3) := by decide +kernel
theorem d_tb_slack_139 : decode prog_1_method_16_code 139 = .ok (.iload 6, 2) := by decide +kernel
theorem d_tb_slack_141 : decode prog_1_method_16_code 141 = .ok (.ifCond .lt 13, 3) := by decide +kernel
theorem d_tb_slack_144 : decode prog_1_method_16_code 144 = .ok (.iload 7, 2) := by decide +kernel
theorem d_tb_slack_146 : decode prog_1_method_16_code 146 = .ok (.ifCond .ge 14, 3) := by decide +kernel
theorem d_tb_slack_149 : decode prog_1_method_16_code 149 = .ok (.iload 6, 2) := by decide +kernel
theorem d_tb_slack_151 : decode prog_1_method_16_code 151 = .ok (.ifCond .le 9, 3) := by decide +kernel
theorem d_tb_slack_154 : decode prog_1_method_16_code 154 = .ok (.iload 4, 2) := by decide +kernel
theorem d_tb_slack_156 : decode prog_1_method_16_code 156 = .ok (.iload 5, 2) := by decide +kernel
theorem d_tb_slack_158 : decode prog_1_method_16_code 158 = .ok (.iadd, 1) := by decide +kernel
theorem d_tb_slack_159 : decode prog_1_method_16_code 159 = .ok (.ireturn, 1) := by decide +kernel
theorem d_tb_slack_160 : decode prog_1_method_16_code 160 = .ok (.iinc 5 1, 3) := by decide +kernel
theorem d_tb_slack_163 : decode prog_1_method_16_code 163 = .ok (.goto (-80), 3) := by decide +kernel
theorem d_tb_slack_166 : decode prog_1_method_16_code 166 = .ok (.sipush (-10001), 3) := by decide +kernel
theorem d_tb_slack_169 : decode prog_1_method_16_code 169 = .ok (.ireturn, 1) := by decide +kernel
theorem d_tb_trip_0 : decode prog_1_method_17_code 0 = .ok (.aload_n 0, 1) := by decide +kernel
theorem d_tb_trip_1 : decode prog_1_method_17_code 1 = .ok (.getfield 19, 3) := by decide +kernel
theorem d_tb_trip_4 : decode prog_1_method_17_code 4 = .ok (.iload_n 1, 1) := by decide +kernel
theorem d_tb_trip_5 : decode prog_1_method_17_code 5 = .ok (.invokevirtual 64, 3) := by decide +kernel
theorem d_tb_trip_8 : decode prog_1_method_17_code 8 = .ok (.ifCond .eq 14, 3) := by decide +kernel
theorem d_tb_trip_11 : decode prog_1_method_17_code 11 = .ok (.aload_n 0, 1) := by decide +kernel
theorem d_tb_trip_12 : decode prog_1_method_17_code 12 = .ok (.getfield 19, 3) := by decide +kernel
theorem d_tb_trip_15 : decode prog_1_method_17_code 15 = .ok (.iload_n 2, 1) := by decide +kernel
theorem d_tb_trip_16 : decode prog_1_method_17_code 16 = .ok (.invokevirtual 64, 3) := by decide +kernel
theorem d_tb_trip_19 : decode prog_1_method_17_code 19 = .ok (.ifCond .ne 7, 3) := by decide +kernel
theorem d_tb_trip_22 : decode prog_1_method_17_code 22 = .ok (.sipush (-10101), 3) := by decide +kernel
theorem d_tb_trip_25 : decode prog_1_method_17_code 25 = .ok (.ireturn, 1) := by decide +kernel
theorem d_tb_trip_26 : decode prog_1_method_17_code 26 = .ok (.iload_n 3, 1) := by decide +kernel
theorem d_tb_trip_27 : decode prog_1_method_17_code 27 = .ok (.iconst 0, 1) := by decide +kernel
theorem d_tb_trip_28 : decode prog_1_method_17_code 28 = .ok (.sipush 1439, 3) := by decide +kernel
theorem d_tb_trip_31 : decode prog_1_method_17_code 31 = .ok (.invokestatic 33, 3) := by decide +kernel
theorem d_tb_trip_34 : decode prog_1_method_17_code 34 = .ok (.ifCond .eq 14, 3) := by decide +kernel
theorem d_tb_trip_37 : decode prog_1_method_17_code 37 = .ok (.iload 4, 2) := by decide +kernel
theorem d_tb_trip_39 : decode prog_1_method_17_code 39 = .ok (.iconst 1, 1) := by decide +kernel
theorem d_tb_trip_40 : decode prog_1_method_17_code 40 = .ok (.bipush 30, 2) := by decide +kernel
theorem d_tb_trip_42 : decode prog_1_method_17_code 42 = .ok (.invokestatic 33, 3) := by decide +kernel
theorem d_tb_trip_45 : decode prog_1_method_17_code 45 = .ok (.ifCond .ne 7, 3) := by decide +kernel
theorem d_tb_trip_48 : decode prog_1_method_17_code 48 = .ok (.sipush (-10102), 3) := by decide +kernel
theorem d_tb_trip_51 : decode prog_1_method_17_code 51 = .ok (.ireturn, 1) := by decide +kernel
theorem d_tb_trip_52 : decode prog_1_method_17_code 52 = .ok (.aload_n 0, 1) := by decide +kernel
theorem d_tb_trip_53 : decode prog_1_method_17_code 53 = .ok (.getfield 19, 3) := by decide +kernel
theorem d_tb_trip_56 : decode prog_1_method_17_code 56 = .ok (.aload_n 0, 1) := by decide +kernel
theorem d_tb_trip_57 : decode prog_1_method_17_code 57 = .ok (.getfield 26, 3) := by decide +kernel
theorem d_tb_trip_60 : decode prog_1_method_17_code 60 = .ok (.iload_n 1, 1) := by decide +kernel
theorem d_tb_trip_61 : decode prog_1_method_17_code 61 = .ok (.iload_n 3, 1) := by decide +kernel
theorem d_tb_trip_62 : decode prog_1_method_17_code 62 = .ok (.sipush 200, 3) := by decide +kernel
theorem d_tb_trip_65 : decode prog_1_method_17_code 65 = .ok (.invokevirtual 125, 3) := by decide +kernel
theorem d_tb_trip_68 : decode prog_1_method_17_code 68 = .ok (.aload_n 0, 1) := by decide +kernel
theorem d_tb_trip_69 : decode prog_1_method_17_code 69 = .ok (.getfield 19, 3) := by decide +kernel
theorem d_tb_trip_72 : decode prog_1_method_17_code 72 = .ok (.aload_n 0, 1) := by decide +kernel
theorem d_tb_trip_73 : decode prog_1_method_17_code 73 = .ok (.getfield 30, 3) := by decide +kernel
theorem d_tb_trip_76 : decode prog_1_method_17_code 76 = .ok (.iload_n 2, 1) := by decide +kernel
theorem d_tb_trip_77 : decode prog_1_method_17_code 77 = .ok (.iload_n 3, 1) := by decide +kernel
theorem d_tb_trip_78 : decode prog_1_method_17_code 78 = .ok (.sipush 200, 3) := by decide +kernel
theorem d_tb_trip_81 : decode prog_1_method_17_code 81 = .ok (.invokevirtual 125, 3) := by decide +kernel
theorem d_tb_trip_84 : decode prog_1_method_17_code 84 = .ok (.aload_n 0, 1) := by decide +kernel
theorem d_tb_trip_85 : decode prog_1_method_17_code 85 = .ok (.iconst 0, 1) := by decide +kernel
theorem d_tb_trip_86 : decode prog_1_method_17_code 86 = .ok (.iload 4, 2) := by decide +kernel
theorem d_tb_trip_88 : decode prog_1_method_17_code 88 = .ok (.invokevirtual 141, 3) := by decide +kernel
theorem d_tb_trip_91 : decode prog_1_method_17_code 91 = .ok (.ireturn, 1) := by decide +kernel
theorem d_tb_leave_0 : decode prog_1_method_18_code 0 = .ok (.aload_n 0, 1) := by decide +kernel
theorem d_tb_leave_1 : decode prog_1_method_18_code 1 = .ok (.getfield 19, 3) := by decide +kernel
theorem d_tb_leave_4 : decode prog_1_method_18_code 4 = .ok (.iload_n 1, 1) := by decide +kernel
theorem d_tb_leave_5 : decode prog_1_method_18_code 5 = .ok (.invokevirtual 64, 3) := by decide +kernel
theorem d_tb_leave_8 : decode prog_1_method_18_code 8 = .ok (.ifCond .eq 14, 3) := by decide +kernel
theorem d_tb_leave_11 : decode prog_1_method_18_code 11 = .ok (.aload_n 0, 1) := by decide +kernel
theorem d_tb_leave_12 : decode prog_1_method_18_code 12 = .ok (.getfield 19, 3) := by decide +kernel
theorem d_tb_leave_15 : decode prog_1_method_18_code 15 = .ok (.iload_n 2, 1) := by decide +kernel
theorem d_tb_leave_16 : decode prog_1_method_18_code 16 = .ok (.invokevirtual 64, 3) := by decide +kernel
theorem d_tb_leave_19 : decode prog_1_method_18_code 19 = .ok (.ifCond .ne 7, 3) := by decide +kernel
theorem d_tb_leave_22 : decode prog_1_method_18_code 22 = .ok (.sipush (-10101), 3) := by decide +kernel
theorem d_tb_leave_25 : decode prog_1_method_18_code 25 = .ok (.ireturn, 1) := by decide +kernel
theorem d_tb_leave_26 : decode prog_1_method_18_code 26 = .ok (.iload_n 3, 1) := by decide +kernel
theorem d_tb_leave_27 : decode prog_1_method_18_code 27 = .ok (.iconst 0, 1) := by decide +kernel
theorem d_tb_leave_28 : decode prog_1_method_18_code 28 = .ok (.bipush 9, 2) := by decide +kernel
theorem d_tb_leave_30 : decode prog_1_method_18_code 30 = .ok (.invokestatic 33, 3) := by decide +kernel
theorem d_tb_leave_33 : decode prog_1_method_18_code 33 = .ok (.ifCond .eq 28, 3) := by decide +kernel
theorem d_tb_leave_36 : decode prog_1_method_18_code 36 = .ok (.iload 4, 2) := by decide +kernel
theorem d_tb_leave_38 : decode prog_1_method_18_code 38 = .ok (.iconst 1, 1) := by decide +kernel
theorem d_tb_leave_39 : decode prog_1_method_18_code 39 = .ok (.bipush 30, 2) := by decide +kernel
theorem d_tb_leave_41 : decode prog_1_method_18_code 41 = .ok (.invokestatic 33, 3) := by decide +kernel
theorem d_tb_leave_44 : decode prog_1_method_18_code 44 = .ok (.ifCond .eq 17, 3) := by decide +kernel
theorem d_tb_leave_47 : decode prog_1_method_18_code 47 = .ok (.iload 5, 2) := by decide +kernel
theorem d_tb_leave_49 : decode prog_1_method_18_code 49 = .ok (.sipush (-2000), 3) := by decide +kernel
theorem d_tb_leave_52 : decode prog_1_method_18_code 52 = .ok (.sipush 4000, 3) := by decide +kernel
theorem d_tb_leave_55 : decode prog_1_method_18_code 55 = .ok (.invokestatic 33, 3) := by decide +kernel
theorem d_tb_leave_58 : decode prog_1_method_18_code 58 = .ok (.ifCond .ne 7, 3) := by decide +kernel
theorem d_tb_leave_61 : decode prog_1_method_18_code 61 = .ok (.sipush (-10102), 3) := by decide +kernel
theorem d_tb_leave_64 : decode prog_1_method_18_code 64 = .ok (.ireturn, 1) := by decide +kernel
theorem d_tb_leave_65 : decode prog_1_method_18_code 65 = .ok (.aload_n 0, 1) := by decide +kernel
theorem d_tb_leave_66 : decode prog_1_method_18_code 66 = .ok (.getfield 19, 3) := by decide +kernel
theorem d_tb_leave_69 : decode prog_1_method_18_code 69 = .ok (.aload_n 0, 1) := by decide +kernel
theorem d_tb_leave_70 : decode prog_1_method_18_code 70 = .ok (.getfield 26, 3) := by decide +kernel
theorem d_tb_leave_73 : decode prog_1_method_18_code 73 = .ok (.iload_n 1, 1) := by decide +kernel
theorem d_tb_leave_74 : decode prog_1_method_18_code 74 = .ok (.iload_n 3, 1) := by decide +kernel
theorem d_tb_leave_75 : decode prog_1_method_18_code 75 = .ok (.sipush 144, 3) := by decide +kernel
theorem d_tb_leave_78 : decode prog_1_method_18_code 78 = .ok (.imul, 1) := by decide +kernel
theorem d_tb_leave_79 : decode prog_1_method_18_code 79 = .ok (.sipush 344, 3) := by decide +kernel
theorem d_tb_leave_82 : decode prog_1_method_18_code 82 = .ok (.invokevirtual 125, 3) := by decide +kernel
theorem d_tb_leave_85 : decode prog_1_method_18_code 85 = .ok (.aload_n 0, 1) := by decide +kernel
theorem d_tb_leave_86 : decode prog_1_method_18_code 86 = .ok (.getfield 19, 3) := by decide +kernel
theorem d_tb_leave_89 : decode prog_1_method_18_code 89 = .ok (.aload_n 0, 1) := by decide +kernel
theorem d_tb_leave_90 : decode prog_1_method_18_code 90 = .ok (.getfield 30, 3) := by decide +kernel
theorem d_tb_leave_93 : decode prog_1_method_18_code 93 = .ok (.iload_n 2, 1) := by decide +kernel
theorem d_tb_leave_94 : decode prog_1_method_18_code 94 = .ok (.iload_n 3, 1) := by decide +kernel
theorem d_tb_leave_95 : decode prog_1_method_18_code 95 = .ok (.sipush 144, 3) := by decide +kernel
theorem d_tb_leave_98 : decode prog_1_method_18_code 98 = .ok (.imul, 1) := by decide +kernel
theorem d_tb_leave_99 : decode prog_1_method_18_code 99 = .ok (.sipush 344, 3) := by decide +kernel
theorem d_tb_leave_102 : decode prog_1_method_18_code 102 = .ok (.invokevirtual 125, 3) := by decide +kernel
theorem d_tb_leave_105 : decode prog_1_method_18_code 105 = .ok (.iconst 0, 1) := by decide +kernel
theorem d_tb_leave_106 : decode prog_1_method_18_code 106 = .ok (.istore 6, 2) := by decide +kernel
theorem d_tb_leave_108 : decode prog_1_method_18_code 108 = .ok (.iload 6, 2) := by decide +kernel
theorem d_tb_leave_110 : decode prog_1_method_18_code 110 = .ok (.sipush 144, 3) := by decide +kernel
theorem d_tb_leave_113 : decode prog_1_method_18_code 113 = .ok (.if_icmp .ge 51, 3) := by decide +kernel
theorem d_tb_leave_116 : decode prog_1_method_18_code 116 = .ok (.aload_n 0, 1) := by decide +kernel
theorem d_tb_leave_117 : decode prog_1_method_18_code 117 = .ok (.iload 6, 2) := by decide +kernel
theorem d_tb_leave_119 : decode prog_1_method_18_code 119 = .ok (.iload 4, 2) := by decide +kernel
theorem d_tb_leave_121 : decode prog_1_method_18_code 121 = .ok (.invokevirtual 141, 3) := by decide +kernel
theorem d_tb_leave_124 : decode prog_1_method_18_code 124 = .ok (.istore 7, 2) := by decide +kernel
theorem d_tb_leave_126 : decode prog_1_method_18_code 126 = .ok (.iload 7, 2) := by decide +kernel
theorem d_tb_leave_128 : decode prog_1_method_18_code 128 = .ok (.sipush (-10001), 3) := by decide +kernel
theorem d_tb_leave_131 : decode prog_1_method_18_code 131 = .ok (.if_icmp .eq 27, 3) := by decide +kernel
theorem d_tb_leave_134 : decode prog_1_method_18_code 134 = .ok (.aload_n 0, 1) := by decide +kernel
theorem d_tb_leave_135 : decode prog_1_method_18_code 135 = .ok (.getfield 30, 3) := by decide +kernel
theorem d_tb_leave_138 : decode prog_1_method_18_code 138 = .ok (.iload 6, 2) := by decide +kernel
theorem d_tb_leave_140 : decode prog_1_method_18_code 140 = .ok (.iload 7, 2) := by decide +kernel
theorem d_tb_leave_142 : decode prog_1_method_18_code 142 = .ok (.iadd, 1) := by decide +kernel
theorem d_tb_leave_143 : decode prog_1_method_18_code 143 = .ok (.iaload, 1) := by decide +kernel
theorem d_tb_leave_144 : decode prog_1_method_18_code 144 = .ok (.iload 5, 2) := by decide +kernel
theorem d_tb_leave_146 : decode prog_1_method_18_code 146 = .ok (.if_icmp .lt 12, 3) := by decide +kernel
theorem d_tb_leave_149 : decode prog_1_method_18_code 149 = .ok (.iload_n 3, 1) := by decide +kernel
theorem d_tb_leave_150 : decode prog_1_method_18_code 150 = .ok (.sipush 144, 3) := by decide +kernel
theorem d_tb_leave_153 : decode prog_1_method_18_code 153 = .ok (.imul, 1) := by decide +kernel
theorem d_tb_leave_154 : decode prog_1_method_18_code 154 = .ok (.iload 6, 2) := by decide +kernel
theorem d_tb_leave_156 : decode prog_1_method_18_code 156 = .ok (.iadd, 1) := by decide +kernel
theorem d_tb_leave_157 : decode prog_1_method_18_code 157 = .ok (.ireturn, 1) := by decide +kernel
theorem d_tb_leave_158 : decode prog_1_method_18_code 158 = .ok (.iinc 6 1, 3) := by decide +kernel
theorem d_tb_leave_161 : decode prog_1_method_18_code 161 = .ok (.goto (-53), 3) := by decide +kernel
theorem d_tb_leave_164 : decode prog_1_method_18_code 164 = .ok (.sipush (-10001), 3) := by decide +kernel
theorem d_tb_leave_167 : decode prog_1_method_18_code 167 = .ok (.ireturn, 1) := by decide +kernel
theorem d_tb_mean_0 : decode prog_1_method_19_code 0 = .ok (.aload_n 0, 1) := by decide +kernel
theorem d_tb_mean_1 : decode prog_1_method_19_code 1 = .ok (.getfield 19, 3) := by decide +kernel
theorem d_tb_mean_4 : decode prog_1_method_19_code 4 = .ok (.iload_n 1, 1) := by decide +kernel
theorem d_tb_mean_5 : decode prog_1_method_19_code 5 = .ok (.invokevirtual 64, 3) := by decide +kernel
theorem d_tb_mean_8 : decode prog_1_method_19_code 8 = .ok (.ifCond .ne 7, 3) := by decide +kernel
theorem d_tb_mean_11 : decode prog_1_method_19_code 11 = .ok (.sipush (-10101), 3) := by decide +kernel
theorem d_tb_mean_14 : decode prog_1_method_19_code 14 = .ok (.ireturn, 1) := by decide +kernel
theorem d_tb_mean_15 : decode prog_1_method_19_code 15 = .ok (.iload_n 2, 1) := by decide +kernel
theorem d_tb_mean_16 : decode prog_1_method_19_code 16 = .ok (.iconst 0, 1) := by decide +kernel
theorem d_tb_mean_17 : decode prog_1_method_19_code 17 = .ok (.bipush 99, 2) := by decide +kernel
theorem d_tb_mean_19 : decode prog_1_method_19_code 19 = .ok (.invokestatic 33, 3) := by decide +kernel
theorem d_tb_mean_22 : decode prog_1_method_19_code 22 = .ok (.ifCond .ne 7, 3) := by decide +kernel
theorem d_tb_mean_25 : decode prog_1_method_19_code 25 = .ok (.sipush (-10102), 3) := by decide +kernel
theorem d_tb_mean_28 : decode prog_1_method_19_code 28 = .ok (.ireturn, 1) := by decide +kernel
theorem d_tb_mean_29 : decode prog_1_method_19_code 29 = .ok (.aload_n 0, 1) := by decide +kernel
theorem d_tb_mean_30 : decode prog_1_method_19_code 30 = .ok (.getfield 19, 3) := by decide +kernel
theorem d_tb_mean_33 : decode prog_1_method_19_code 33 = .ok (.getfield 68, 3) := by decide +kernel
theorem d_tb_mean_36 : decode prog_1_method_19_code 36 = .ok (.iload_n 1, 1) := by decide +kernel
theorem d_tb_mean_37 : decode prog_1_method_19_code 37 = .ok (.aaload, 1) := by decide +kernel
theorem d_tb_mean_38 : decode prog_1_method_19_code 38 = .ok (.getfield 77, 3) := by decide +kernel
theorem d_tb_mean_41 : decode prog_1_method_19_code 41 = .ok (.istore_n 3, 1) := by decide +kernel
theorem d_tb_mean_42 : decode prog_1_method_19_code 42 = .ok (.aload_n 0, 1) := by decide +kernel
theorem d_tb_mean_43 : decode prog_1_method_19_code 43 = .ok (.getfield 19, 3) := by decide +kernel
theorem d_tb_mean_46 : decode prog_1_method_19_code 46 = .ok (.getfield 68, 3) := by decide +kernel
theorem d_tb_mean_49 : decode prog_1_method_19_code 49 = .ok (.iload_n 1, 1) := by decide +kernel
theorem d_tb_mean_50 : decode prog_1_method_19_code 50 = .ok (.aaload, 1) := by decide +kernel
theorem d_tb_mean_51 : decode prog_1_method_19_code 51 = .ok (.iload_n 2, 1) := by decide +kernel
theorem d_tb_mean_52 : decode prog_1_method_19_code 52 = .ok (.putfield 77, 3) := by decide +kernel
theorem d_tb_mean_55 : decode prog_1_method_19_code 55 = .ok (.iload_n 3, 1) := by decide +kernel
theorem d_tb_mean_56 : decode prog_1_method_19_code 56 = .ok (.ireturn, 1) := by decide +kernel
theorem d_tb_mark_0 : decode prog_1_method_20_code 0 = .ok (.aload_n 0, 1) := by decide +kernel
theorem d_tb_mark_1 : decode prog_1_method_20_code 1 = .ok (.getfield 19, 3) := by decide +kernel
theorem d_tb_mark_4 : decode prog_1_method_20_code 4 = .ok (.iload_n 1, 1) := by decide +kernel
theorem d_tb_mark_5 : decode prog_1_method_20_code 5 = .ok (.invokevirtual 64, 3) := by decide +kernel
theorem d_tb_mark_8 : decode prog_1_method_20_code 8 = .ok (.ifCond .ne 7, 3) := by decide +kernel
theorem d_tb_mark_11 : decode prog_1_method_20_code 11 = .ok (.sipush (-10101), 3) := by decide +kernel
theorem d_tb_mark_14 : decode prog_1_method_20_code 14 = .ok (.ireturn, 1) := by decide +kernel
theorem d_tb_mark_15 : decode prog_1_method_20_code 15 = .ok (.iload_n 2, 1) := by decide +kernel
theorem d_tb_mark_16 : decode prog_1_method_20_code 16 = .ok (.iconst 0, 1) := by decide +kernel
theorem d_tb_mark_17 : decode prog_1_method_20_code 17 = .ok (.bipush 99, 2) := by decide +kernel
theorem d_tb_mark_19 : decode prog_1_method_20_code 19 = .ok (.invokestatic 33, 3) := by decide +kernel
theorem d_tb_mark_22 : decode prog_1_method_20_code 22 = .ok (.ifCond .ne 7, 3) := by decide +kernel
theorem d_tb_mark_25 : decode prog_1_method_20_code 25 = .ok (.sipush (-10102), 3) := by decide +kernel
theorem d_tb_mark_28 : decode prog_1_method_20_code 28 = .ok (.ireturn, 1) := by decide +kernel
theorem d_tb_mark_29 : decode prog_1_method_20_code 29 = .ok (.aload_n 0, 1) := by decide +kernel
theorem d_tb_mark_30 : decode prog_1_method_20_code 30 = .ok (.getfield 19, 3) := by decide +kernel
theorem d_tb_mark_33 : decode prog_1_method_20_code 33 = .ok (.getfield 68, 3) := by decide +kernel
theorem d_tb_mark_36 : decode prog_1_method_20_code 36 = .ok (.iload_n 1, 1) := by decide +kernel
theorem d_tb_mark_37 : decode prog_1_method_20_code 37 = .ok (.aaload, 1) := by decide +kernel
theorem d_tb_mark_38 : decode prog_1_method_20_code 38 = .ok (.getfield 80, 3) := by decide +kernel
theorem d_tb_mark_41 : decode prog_1_method_20_code 41 = .ok (.istore_n 3, 1) := by decide +kernel
theorem d_tb_mark_42 : decode prog_1_method_20_code 42 = .ok (.aload_n 0, 1) := by decide +kernel
theorem d_tb_mark_43 : decode prog_1_method_20_code 43 = .ok (.getfield 19, 3) := by decide +kernel
theorem d_tb_mark_46 : decode prog_1_method_20_code 46 = .ok (.getfield 68, 3) := by decide +kernel
theorem d_tb_mark_49 : decode prog_1_method_20_code 49 = .ok (.iload_n 1, 1) := by decide +kernel
theorem d_tb_mark_50 : decode prog_1_method_20_code 50 = .ok (.aaload, 1) := by decide +kernel
theorem d_tb_mark_51 : decode prog_1_method_20_code 51 = .ok (.iload_n 2, 1) := by decide +kernel
theorem d_tb_mark_52 : decode prog_1_method_20_code 52 = .ok (.putfield 80, 3) := by decide +kernel
theorem d_tb_mark_55 : decode prog_1_method_20_code 55 = .ok (.iload_n 3, 1) := by decide +kernel
theorem d_tb_mark_56 : decode prog_1_method_20_code 56 = .ok (.ireturn, 1) := by decide +kernel
theorem d_tb_ratio_0 : decode prog_1_method_21_code 0 = .ok (.aload_n 0, 1) := by decide +kernel
theorem d_tb_ratio_1 : decode prog_1_method_21_code 1 = .ok (.getfield 19, 3) := by decide +kernel
theorem d_tb_ratio_4 : decode prog_1_method_21_code 4 = .ok (.iload_n 1, 1) := by decide +kernel
theorem d_tb_ratio_5 : decode prog_1_method_21_code 5 = .ok (.invokevirtual 64, 3) := by decide +kernel
theorem d_tb_ratio_8 : decode prog_1_method_21_code 8 = .ok (.ifCond .ne 7, 3) := by decide +kernel
theorem d_tb_ratio_11 : decode prog_1_method_21_code 11 = .ok (.sipush (-10101), 3) := by decide +kernel
theorem d_tb_ratio_14 : decode prog_1_method_21_code 14 = .ok (.ireturn, 1) := by decide +kernel
theorem d_tb_ratio_15 : decode prog_1_method_21_code 15 = .ok (.iload_n 2, 1) := by decide +kernel
theorem d_tb_ratio_16 : decode prog_1_method_21_code 16 = .ok (.iconst 0, 1) := by decide +kernel
theorem d_tb_ratio_17 : decode prog_1_method_21_code 17 = .ok (.bipush 99, 2) := by decide +kernel
theorem d_tb_ratio_19 : decode prog_1_method_21_code 19 = .ok (.invokestatic 33, 3) := by decide +kernel
theorem d_tb_ratio_22 : decode prog_1_method_21_code 22 = .ok (.ifCond .ne 7, 3) := by decide +kernel
theorem d_tb_ratio_25 : decode prog_1_method_21_code 25 = .ok (.sipush (-10102), 3) := by decide +kernel
theorem d_tb_ratio_28 : decode prog_1_method_21_code 28 = .ok (.ireturn, 1) := by decide +kernel
theorem d_tb_ratio_29 : decode prog_1_method_21_code 29 = .ok (.aload_n 0, 1) := by decide +kernel
theorem d_tb_ratio_30 : decode prog_1_method_21_code 30 = .ok (.getfield 19, 3) := by decide +kernel
theorem d_tb_ratio_33 : decode prog_1_method_21_code 33 = .ok (.getfield 68, 3) := by decide +kernel
theorem d_tb_ratio_36 : decode prog_1_method_21_code 36 = .ok (.iload_n 1, 1) := by decide +kernel
theorem d_tb_ratio_37 : decode prog_1_method_21_code 37 = .ok (.aaload, 1) := by decide +kernel
theorem d_tb_ratio_38 : decode prog_1_method_21_code 38 = .ok (.getfield 83, 3) := by decide +kernel
theorem d_tb_ratio_41 : decode prog_1_method_21_code 41 = .ok (.istore_n 3, 1) := by decide +kernel
theorem d_tb_ratio_42 : decode prog_1_method_21_code 42 = .ok (.aload_n 0, 1) := by decide +kernel
theorem d_tb_ratio_43 : decode prog_1_method_21_code 43 = .ok (.getfield 19, 3) := by decide +kernel
theorem d_tb_ratio_46 : decode prog_1_method_21_code 46 = .ok (.getfield 68, 3) := by decide +kernel
theorem d_tb_ratio_49 : decode prog_1_method_21_code 49 = .ok (.iload_n 1, 1) := by decide +kernel
theorem d_tb_ratio_50 : decode prog_1_method_21_code 50 = .ok (.aaload, 1) := by decide +kernel
theorem d_tb_ratio_51 : decode prog_1_method_21_code 51 = .ok (.iload_n 2, 1) := by decide +kernel
theorem d_tb_ratio_52 : decode prog_1_method_21_code 52 = .ok (.putfield 83, 3) := by decide +kernel
theorem d_tb_ratio_55 : decode prog_1_method_21_code 55 = .ok (.iload_n 3, 1) := by decide +kernel
theorem d_tb_ratio_56 : decode prog_1_method_21_code 56 = .ok (.ireturn, 1) := by decide +kernel
theorem d_tb_add_0 : decode prog_1_method_22_code 0 = .ok (.aload_n 0, 1) := by decide +kernel
theorem d_tb_add_1 : decode prog_1_method_22_code 1 = .ok (.getfield 19, 3) := by decide +kernel
theorem d_tb_add_4 : decode prog_1_method_22_code 4 = .ok (.iload_n 1, 1) := by decide +kernel
theorem d_tb_add_5 : decode prog_1_method_22_code 5 = .ok (.invokevirtual 64, 3) := by decide +kernel
theorem d_tb_add_8 : decode prog_1_method_22_code 8 = .ok (.ifCond .ne 7, 3) := by decide +kernel
theorem d_tb_add_11 : decode prog_1_method_22_code 11 = .ok (.sipush (-10101), 3) := by decide +kernel
theorem d_tb_add_14 : decode prog_1_method_22_code 14 = .ok (.ireturn, 1) := by decide +kernel
theorem d_tb_add_15 : decode prog_1_method_22_code 15 = .ok (.iload_n 2, 1) := by decide +kernel
theorem d_tb_add_16 : decode prog_1_method_22_code 16 = .ok (.iconst 1, 1) := by decide +kernel
theorem d_tb_add_17 : decode prog_1_method_22_code 17 = .ok (.bipush 99, 2) := by decide +kernel
theorem d_tb_add_19 : decode prog_1_method_22_code 19 = .ok (.invokestatic 33, 3) := by decide +kernel
theorem d_tb_add_22 : decode prog_1_method_22_code 22 = .ok (.ifCond .eq 24, 3) := by decide +kernel
theorem d_tb_add_25 : decode prog_1_method_22_code 25 = .ok (.iload_n 3, 1) := by decide +kernel
theorem d_tb_add_26 : decode prog_1_method_22_code 26 = .ok (.iconst 0, 1) := by decide +kernel
theorem d_tb_add_27 : decode prog_1_method_22_code 27 = .ok (.bipush 99, 2) := by decide +kernel
theorem d_tb_add_29 : decode prog_1_method_22_code 29 = .ok (.invokestatic 33, 3) := by decide +kernel
theorem d_tb_add_32 : decode prog_1_method_22_code 32 = .ok (.ifCond .eq 14, 3) := by decide +kernel
theorem d_tb_add_35 : decode prog_1_method_22_code 35 = .ok (.iload 4, 2) := by decide +kernel
theorem d_tb_add_37 : decode prog_1_method_22_code 37 = .ok (.iconst 0, 1) := by decide +kernel
theorem d_tb_add_38 : decode prog_1_method_22_code 38 = .ok (.bipush 63, 2) := by decide +kernel
theorem d_tb_add_40 : decode prog_1_method_22_code 40 = .ok (.invokestatic 33, 3) := by decide +kernel
theorem d_tb_add_43 : decode prog_1_method_22_code 43 = .ok (.ifCond .ne 7, 3) := by decide +kernel
theorem d_tb_add_46 : decode prog_1_method_22_code 46 = .ok (.sipush (-10102), 3) := by decide +kernel
theorem d_tb_add_49 : decode prog_1_method_22_code 49 = .ok (.ireturn, 1) := by decide +kernel
theorem d_tb_add_50 : decode prog_1_method_22_code 50 = .ok (.aload_n 0, 1) := by decide +kernel
theorem d_tb_add_51 : decode prog_1_method_22_code 51 = .ok (.getfield 19, 3) := by decide +kernel
theorem d_tb_add_54 : decode prog_1_method_22_code 54 = .ok (.getfield 68, 3) := by decide +kernel
theorem d_tb_add_57 : decode prog_1_method_22_code 57 = .ok (.iload_n 1, 1) := by decide +kernel
theorem d_tb_add_58 : decode prog_1_method_22_code 58 = .ok (.aaload, 1) := by decide +kernel
theorem d_tb_add_59 : decode prog_1_method_22_code 59 = .ok (.astore 5, 2) := by decide +kernel
theorem d_tb_add_61 : decode prog_1_method_22_code 61 = .ok (.aload 5, 2) := by decide +kernel
theorem d_tb_add_63 : decode prog_1_method_22_code 63 = .ok (.getfield 86, 3) := by decide +kernel
theorem d_tb_add_66 : decode prog_1_method_22_code 66 = .ok (.iconst 3, 1) := by decide +kernel
theorem d_tb_add_67 : decode prog_1_method_22_code 67 = .ok (.if_icmp .lt 7, 3) := by decide +kernel
theorem d_tb_add_70 : decode prog_1_method_22_code 70 = .ok (.sipush (-10104), 3) := by decide +kernel
theorem d_tb_add_73 : decode prog_1_method_22_code 73 = .ok (.ireturn, 1) := by decide +kernel
theorem d_tb_add_74 : decode prog_1_method_22_code 74 = .ok (.aload 5, 2) := by decide +kernel
theorem d_tb_add_76 : decode prog_1_method_22_code 76 = .ok (.iload_n 2, 1) := by decide +kernel
theorem d_tb_add_77 : decode prog_1_method_22_code 77 = .ok (.iload_n 3, 1) := by decide +kernel
theorem d_tb_add_78 : decode prog_1_method_22_code 78 = .ok (.iload 4, 2) := by decide +kernel
theorem d_tb_add_80 : decode prog_1_method_22_code 80 = .ok (.invokevirtual 144, 3) := by decide +kernel
theorem d_tb_add_83 : decode prog_1_method_22_code 83 = .ok (.aload 5, 2) := by decide +kernel
theorem d_tb_add_85 : decode prog_1_method_22_code 85 = .ok (.getfield 86, 3) := by decide +kernel
theorem d_tb_add_88 : decode prog_1_method_22_code 88 = .ok (.ireturn, 1) := by decide +kernel
theorem d_tb_take_0 : decode prog_1_method_23_code 0 = .ok (.aload_n 0, 1) := by decide +kernel
theorem d_tb_take_1 : decode prog_1_method_23_code 1 = .ok (.getfield 19, 3) := by decide +kernel
theorem d_tb_take_4 : decode prog_1_method_23_code 4 = .ok (.iload_n 1, 1) := by decide +kernel
theorem d_tb_take_5 : decode prog_1_method_23_code 5 = .ok (.invokevirtual 64, 3) := by decide +kernel
theorem d_tb_take_8 : decode prog_1_method_23_code 8 = .ok (.ifCond .eq 19, 3) := by decide +kernel
theorem d_tb_take_11 : decode prog_1_method_23_code 11 = .ok (.aload_n 0, 1) := by decide +kernel
theorem d_tb_take_12 : decode prog_1_method_23_code 12 = .ok (.getfield 19, 3) := by decide +kernel
theorem d_tb_take_15 : decode prog_1_method_23_code 15 = .ok (.getfield 68, 3) := by decide +kernel
theorem d_tb_take_18 : decode prog_1_method_23_code 18 = .ok (.iload_n 1, 1) := by decide +kernel
theorem d_tb_take_19 : decode prog_1_method_23_code 19 = .ok (.aaload, 1) := by decide +kernel
theorem d_tb_take_20 : decode prog_1_method_23_code 20 = .ok (.iload_n 2, 1) := by decide +kernel
theorem d_tb_take_21 : decode prog_1_method_23_code 21 = .ok (.invokevirtual 94, 3) := by decide +kernel
theorem d_tb_take_24 : decode prog_1_method_23_code 24 = .ok (.ifCond .ne 7, 3) := by decide +kernel
theorem d_tb_take_27 : decode prog_1_method_23_code 27 = .ok (.sipush (-10101), 3) := by decide +kernel
theorem d_tb_take_30 : decode prog_1_method_23_code 30 = .ok (.ireturn, 1) := by decide +kernel
theorem d_tb_take_31 : decode prog_1_method_23_code 31 = .ok (.aload_n 0, 1) := by decide +kernel
theorem d_tb_take_32 : decode prog_1_method_23_code 32 = .ok (.getfield 19, 3) := by decide +kernel
theorem d_tb_take_35 : decode prog_1_method_23_code 35 = .ok (.getfield 68, 3) := by decide +kernel
theorem d_tb_take_38 : decode prog_1_method_23_code 38 = .ok (.iload_n 1, 1) := by decide +kernel
theorem d_tb_take_39 : decode prog_1_method_23_code 39 = .ok (.aaload, 1) := by decide +kernel
theorem d_tb_take_40 : decode prog_1_method_23_code 40 = .ok (.iload_n 2, 1) := by decide +kernel
theorem d_tb_take_41 : decode prog_1_method_23_code 41 = .ok (.invokevirtual 148, 3) := by decide +kernel
theorem d_tb_take_44 : decode prog_1_method_23_code 44 = .ok (.aload_n 0, 1) := by decide +kernel
theorem d_tb_take_45 : decode prog_1_method_23_code 45 = .ok (.getfield 19, 3) := by decide +kernel
theorem d_tb_take_48 : decode prog_1_method_23_code 48 = .ok (.getfield 68, 3) := by decide +kernel
theorem d_tb_take_51 : decode prog_1_method_23_code 51 = .ok (.iload_n 1, 1) := by decide +kernel
theorem d_tb_take_52 : decode prog_1_method_23_code 52 = .ok (.aaload, 1) := by decide +kernel
theorem d_tb_take_53 : decode prog_1_method_23_code 53 = .ok (.getfield 86, 3) := by decide +kernel
theorem d_tb_take_56 : decode prog_1_method_23_code 56 = .ok (.ireturn, 1) := by decide +kernel
theorem d_tb_be_0 : decode prog_1_method_24_code 0 = .ok (.aload_n 0, 1) := by decide +kernel
theorem d_tb_be_1 : decode prog_1_method_24_code 1 = .ok (.getfield 19, 3) := by decide +kernel
theorem d_tb_be_4 : decode prog_1_method_24_code 4 = .ok (.iload_n 1, 1) := by decide +kernel
theorem d_tb_be_5 : decode prog_1_method_24_code 5 = .ok (.invokevirtual 64, 3) := by decide +kernel
theorem d_tb_be_8 : decode prog_1_method_24_code 8 = .ok (.ifCond .ne 7, 3) := by decide +kernel
theorem d_tb_be_11 : decode prog_1_method_24_code 11 = .ok (.sipush (-10101), 3) := by decide +kernel
theorem d_tb_be_14 : decode prog_1_method_24_code 14 = .ok (.ireturn, 1) := by decide +kernel
theorem d_tb_be_15 : decode prog_1_method_24_code 15 = .ok (.iload_n 2, 1) := by decide +kernel
theorem d_tb_be_16 : decode prog_1_method_24_code 16 = .ok (.iconst 0, 1) := by decide +kernel
theorem d_tb_be_17 : decode prog_1_method_24_code 17 = .ok (.iconst 4, 1) := by decide +kernel
theorem d_tb_be_18 : decode prog_1_method_24_code 18 = .ok (.invokestatic 33, 3) := by decide +kernel
theorem d_tb_be_21 : decode prog_1_method_24_code 21 = .ok (.ifCond .eq 12, 3) := by decide +kernel
theorem d_tb_be_24 : decode prog_1_method_24_code 24 = .ok (.iload_n 1, 1) := by decide +kernel
theorem d_tb_be_25 : decode prog_1_method_24_code 25 = .ok (.ifCond .ne 12, 3) := by decide +kernel
theorem d_tb_be_28 : decode prog_1_method_24_code 28 = .ok (.iload_n 2, 1) := by decide +kernel
theorem d_tb_be_29 : decode prog_1_method_24_code 29 = .ok (.iconst 3, 1) := by decide +kernel
theorem d_tb_be_30 : decode prog_1_method_24_code 30 = .ok (.if_icmp .ne 7, 3) := by decide +kernel
theorem d_tb_be_33 : decode prog_1_method_24_code 33 = .ok (.sipush (-10102), 3) := by decide +kernel
theorem d_tb_be_36 : decode prog_1_method_24_code 36 = .ok (.ireturn, 1) := by decide +kernel
theorem d_tb_be_37 : decode prog_1_method_24_code 37 = .ok (.aload_n 0, 1) := by decide +kernel
theorem d_tb_be_38 : decode prog_1_method_24_code 38 = .ok (.getfield 19, 3) := by decide +kernel
theorem d_tb_be_41 : decode prog_1_method_24_code 41 = .ok (.getfield 68, 3) := by decide +kernel
theorem d_tb_be_44 : decode prog_1_method_24_code 44 = .ok (.iload_n 1, 1) := by decide +kernel
theorem d_tb_be_45 : decode prog_1_method_24_code 45 = .ok (.aaload, 1) := by decide +kernel
theorem d_tb_be_46 : decode prog_1_method_24_code 46 = .ok (.getfield 72, 3) := by decide +kernel
theorem d_tb_be_49 : decode prog_1_method_24_code 49 = .ok (.istore_n 3, 1) := by decide +kernel
theorem d_tb_be_50 : decode prog_1_method_24_code 50 = .ok (.aload_n 0, 1) := by decide +kernel
theorem d_tb_be_51 : decode prog_1_method_24_code 51 = .ok (.getfield 19, 3) := by decide +kernel
theorem d_tb_be_54 : decode prog_1_method_24_code 54 = .ok (.getfield 68, 3) := by decide +kernel
theorem d_tb_be_57 : decode prog_1_method_24_code 57 = .ok (.iload_n 1, 1) := by decide +kernel
theorem d_tb_be_58 : decode prog_1_method_24_code 58 = .ok (.aaload, 1) := by decide +kernel
theorem d_tb_be_59 : decode prog_1_method_24_code 59 = .ok (.iload_n 2, 1) := by decide +kernel
theorem d_tb_be_60 : decode prog_1_method_24_code 60 = .ok (.putfield 72, 3) := by decide +kernel
theorem d_tb_be_63 : decode prog_1_method_24_code 63 = .ok (.iload_n 3, 1) := by decide +kernel
theorem d_tb_be_64 : decode prog_1_method_24_code 64 = .ok (.ireturn, 1) := by decide +kernel
theorem d_tb_see_0 : decode prog_1_method_25_code 0 = .ok (.aload_n 0, 1) := by decide +kernel
theorem d_tb_see_1 : decode prog_1_method_25_code 1 = .ok (.getfield 19, 3) := by decide +kernel
theorem d_tb_see_4 : decode prog_1_method_25_code 4 = .ok (.iload_n 1, 1) := by decide +kernel
theorem d_tb_see_5 : decode prog_1_method_25_code 5 = .ok (.invokevirtual 64, 3) := by decide +kernel
theorem d_tb_see_8 : decode prog_1_method_25_code 8 = .ok (.ifCond .ne 7, 3) := by decide +kernel
theorem d_tb_see_11 : decode prog_1_method_25_code 11 = .ok (.sipush (-10101), 3) := by decide +kernel
theorem d_tb_see_14 : decode prog_1_method_25_code 14 = .ok (.ireturn, 1) := by decide +kernel
theorem d_tb_see_15 : decode prog_1_method_25_code 15 = .ok (.iload_n 2, 1) := by decide +kernel
theorem d_tb_see_16 : decode prog_1_method_25_code 16 = .ok (.iconst 0, 1) := by decide +kernel
theorem d_tb_see_17 : decode prog_1_method_25_code 17 = .ok (.getstatic 152, 3) := by decide +kernel
theorem d_tb_see_20 : decode prog_1_method_25_code 20 = .ok (.arraylength, 1) := by decide +kernel
theorem d_tb_see_21 : decode prog_1_method_25_code 21 = .ok (.iconst 1, 1) := by decide +kernel
theorem d_tb_see_22 : decode prog_1_method_25_code 22 = .ok (.isub, 1) := by decide +kernel
theorem d_tb_see_23 : decode prog_1_method_25_code 23 = .ok (.invokestatic 33, 3) := by decide +kernel
theorem d_tb_see_26 : decode prog_1_method_25_code 26 = .ok (.ifCond .ne 7, 3) := by decide +kernel
theorem d_tb_see_29 : decode prog_1_method_25_code 29 = .ok (.sipush (-10102), 3) := by decide +kernel
theorem d_tb_see_32 : decode prog_1_method_25_code 32 = .ok (.ireturn, 1) := by decide +kernel
theorem d_tb_see_33 : decode prog_1_method_25_code 33 = .ok (.aload_n 0, 1) := by decide +kernel
theorem d_tb_see_34 : decode prog_1_method_25_code 34 = .ok (.getfield 19, 3) := by decide +kernel
theorem d_tb_see_37 : decode prog_1_method_25_code 37 = .ok (.getfield 155, 3) := by decide +kernel
theorem d_tb_see_40 : decode prog_1_method_25_code 40 = .ok (.bipush 6, 2) := by decide +kernel
theorem d_tb_see_42 : decode prog_1_method_25_code 42 = .ok (.if_icmp .lt 7, 3) := by decide +kernel
theorem d_tb_see_45 : decode prog_1_method_25_code 45 = .ok (.sipush (-10104), 3) := by decide +kernel
theorem d_tb_see_48 : decode prog_1_method_25_code 48 = .ok (.ireturn, 1) := by decide +kernel
theorem d_tb_see_49 : decode prog_1_method_25_code 49 = .ok (.aload_n 0, 1) := by decide +kernel
theorem d_tb_see_50 : decode prog_1_method_25_code 50 = .ok (.getfield 19, 3) := by decide +kernel
theorem d_tb_see_53 : decode prog_1_method_25_code 53 = .ok (.getfield 68, 3) := by decide +kernel
theorem d_tb_see_56 : decode prog_1_method_25_code 56 = .ok (.iload_n 1, 1) := by decide +kernel
theorem d_tb_see_57 : decode prog_1_method_25_code 57 = .ok (.aaload, 1) := by decide +kernel
theorem d_tb_see_58 : decode prog_1_method_25_code 58 = .ok (.dup, 1) := by decide +kernel
theorem d_tb_see_59 : decode prog_1_method_25_code 59 = .ok (.getfield 87, 3) := by decide +kernel
theorem d_tb_see_62 : decode prog_1_method_25_code 62 = .ok (.iload_n 3, 1) := by decide +kernel
theorem d_tb_see_63 : decode prog_1_method_25_code 63 = .ok (.ifCond .eq 11, 3) := by decide +kernel
theorem d_tb_see_66 : decode prog_1_method_25_code 66 = .ok (.getstatic 152, 3) := by decide +kernel
theorem d_tb_see_69 : decode prog_1_method_25_code 69 = .ok (.iload_n 2, 1) := by decide +kernel
theorem d_tb_see_70 : decode prog_1_method_25_code 70 = .ok (.iaload, 1) := by decide +kernel
theorem d_tb_see_71 : decode prog_1_method_25_code 71 = .ok (.goto 10, 3) := by decide +kernel
theorem d_tb_see_74 : decode prog_1_method_25_code 74 = .ok (.getstatic 152, 3) := by decide +kernel
theorem d_tb_see_77 : decode prog_1_method_25_code 77 = .ok (.iload_n 2, 1) := by decide +kernel
theorem d_tb_see_78 : decode prog_1_method_25_code 78 = .ok (.iaload, 1) := by decide +kernel
theorem d_tb_see_79 : decode prog_1_method_25_code 79 = .ok (.iconst (-1), 1) := by decide +kernel
theorem d_tb_see_80 : decode prog_1_method_25_code 80 = .ok (.ixor, 1) := by decide +kernel
theorem d_tb_see_81 : decode prog_1_method_25_code 81 = .ok (.iand, 1) := by decide +kernel
theorem d_tb_see_82 : decode prog_1_method_25_code 82 = .ok (.putfield 87, 3) := by decide +kernel
theorem d_tb_see_85 : decode prog_1_method_25_code 85 = .ok (.aload_n 0, 1) := by decide +kernel
theorem d_tb_see_86 : decode prog_1_method_25_code 86 = .ok (.getfield 19, 3) := by decide +kernel
theorem d_tb_see_89 : decode prog_1_method_25_code 89 = .ok (.dup, 1) := by decide +kernel
theorem d_tb_see_90 : decode prog_1_method_25_code 90 = .ok (.getfield 155, 3) := by decide +kernel
theorem d_tb_see_93 : decode prog_1_method_25_code 93 = .ok (.iconst 1, 1) := by decide +kernel
theorem d_tb_see_94 : decode prog_1_method_25_code 94 = .ok (.iadd, 1) := by decide +kernel
theorem d_tb_see_95 : decode prog_1_method_25_code 95 = .ok (.putfield 155, 3) := by decide +kernel
theorem d_tb_see_98 : decode prog_1_method_25_code 98 = .ok (.aload_n 0, 1) := by decide +kernel
theorem d_tb_see_99 : decode prog_1_method_25_code 99 = .ok (.getfield 19, 3) := by decide +kernel
theorem d_tb_see_102 : decode prog_1_method_25_code 102 = .ok (.getfield 155, 3) := by decide +kernel
theorem d_tb_see_105 : decode prog_1_method_25_code 105 = .ok (.ireturn, 1) := by decide +kernel
theorem d_tb_forget_0 : decode prog_1_method_26_code 0 = .ok (.aload_n 0, 1) := by decide +kernel
theorem d_tb_forget_1 : decode prog_1_method_26_code 1 = .ok (.getfield 19, 3) := by decide +kernel
theorem d_tb_forget_4 : decode prog_1_method_26_code 4 = .ok (.getfield 155, 3) := by decide +kernel
theorem d_tb_forget_7 : decode prog_1_method_26_code 7 = .ok (.istore_n 1, 1) := by decide +kernel
theorem d_tb_forget_8 : decode prog_1_method_26_code 8 = .ok (.iconst 0, 1) := by decide +kernel
theorem d_tb_forget_9 : decode prog_1_method_26_code 9 = .ok (.istore_n 2, 1) := by decide +kernel
theorem d_tb_forget_10 : decode prog_1_method_26_code 10 = .ok (.iload_n 2, 1) := by decide +kernel
theorem d_tb_forget_11 : decode prog_1_method_26_code 11 = .ok (.aload_n 0, 1) := by decide +kernel
theorem d_tb_forget_12 : decode prog_1_method_26_code 12 = .ok (.getfield 19, 3) := by decide +kernel
theorem d_tb_forget_15 : decode prog_1_method_26_code 15 = .ok (.getfield 63, 3) := by decide +kernel
theorem d_tb_forget_18 : decode prog_1_method_26_code 18 = .ok (.if_icmp .ge 23, 3) := by decide +kernel
theorem d_tb_forget_21 : decode prog_1_method_26_code 21 = .ok (.aload_n 0, 1) := by decide +kernel
theorem d_tb_forget_22 : decode prog_1_method_26_code 22 = .ok (.getfield 19, 3) := by decide +kernel
theorem d_tb_forget_25 : decode prog_1_method_26_code 25 = .ok (.getfield 68, 3) := by decide +kernel
theorem d_tb_forget_28 : decode prog_1_method_26_code 28 = .ok (.iload_n 2, 1) := by decide +kernel
theorem d_tb_forget_29 : decode prog_1_method_26_code 29 = .ok (.aaload, 1) := by decide +kernel
theorem d_tb_forget_30 : decode prog_1_method_26_code 30 = .ok (.bipush 31, 2) := by decide +kernel
theorem d_tb_forget_32 : decode prog_1_method_26_code 32 = .ok (.putfield 87, 3) := by decide +kernel
theorem d_tb_forget_35 : decode prog_1_method_26_code 35 = .ok (.iinc 2 1, 3) := by decide +kernel
theorem d_tb_forget_38 : decode prog_1_method_26_code 38 = .ok (.goto (-28), 3) := by decide +kernel
theorem d_tb_forget_41 : decode prog_1_method_26_code 41 = .ok (.aload_n 0, 1) := by decide +kernel
theorem d_tb_forget_42 : decode prog_1_method_26_code 42 = .ok (.getfield 19, 3) := by decide +kernel
theorem d_tb_forget_45 : decode prog_1_method_26_code 45 = .ok (.iconst 0, 1) := by decide +kernel
theorem d_tb_forget_46 : decode prog_1_method_26_code 46 = .ok (.putfield 155, 3) := by decide +kernel
theorem d_tb_forget_49 : decode prog_1_method_26_code 49 = .ok (.iload_n 1, 1) := by decide +kernel
theorem d_tb_forget_50 : decode prog_1_method_26_code 50 = .ok (.ireturn, 1) := by decide +kernel
theorem d_tb_drawn_0 : decode prog_1_method_27_code 0 = .ok (.iload_n 1, 1) := by decide +kernel
theorem d_tb_drawn_1 : decode prog_1_method_27_code 1 = .ok (.iconst 1, 1) := by decide +kernel
theorem d_tb_drawn_2 : decode prog_1_method_27_code 2 = .ok (.bipush 50, 2) := by decide +kernel
theorem d_tb_drawn_4 : decode prog_1_method_27_code 4 = .ok (.invokestatic 33, 3) := by decide +kernel
theorem d_tb_drawn_7 : decode prog_1_method_27_code 7 = .ok (.ifCond .eq 16, 3) := by decide +kernel
theorem d_tb_drawn_10 : decode prog_1_method_27_code 10 = .ok (.iload_n 2, 1) := by decide +kernel
theorem d_tb_drawn_11 : decode prog_1_method_27_code 11 = .ok (.ifCond .lt 12, 3) := by decide +kernel
theorem d_tb_drawn_14 : decode prog_1_method_27_code 14 = .ok (.iload_n 3, 1) := by decide +kernel
theorem d_tb_drawn_15 : decode prog_1_method_27_code 15 = .ok (.iconst 0, 1) := by decide +kernel
theorem d_tb_drawn_16 : decode prog_1_method_27_code 16 = .ok (.iconst 2, 1) := by decide +kernel
theorem d_tb_drawn_17 : decode prog_1_method_27_code 17 = .ok (.invokestatic 33, 3) := by decide +kernel
theorem d_tb_drawn_20 : decode prog_1_method_27_code 20 = .ok (.ifCond .ne 7, 3) := by decide +kernel
theorem d_tb_drawn_23 : decode prog_1_method_27_code 23 = .ok (.sipush (-10102), 3) := by decide +kernel
theorem d_tb_drawn_26 : decode prog_1_method_27_code 26 = .ok (.ireturn, 1) := by decide +kernel
theorem d_tb_drawn_27 : decode prog_1_method_27_code 27 = .ok (.aload_n 0, 1) := by decide +kernel
theorem d_tb_drawn_28 : decode prog_1_method_27_code 28 = .ok (.getfield 19, 3) := by decide +kernel
theorem d_tb_drawn_31 : decode prog_1_method_27_code 31 = .ok (.getfield 63, 3) := by decide +kernel
theorem d_tb_drawn_34 : decode prog_1_method_27_code 34 = .ok (.ifCond .ne 7, 3) := by decide +kernel
theorem d_tb_drawn_37 : decode prog_1_method_27_code 37 = .ok (.sipush (-10103), 3) := by decide +kernel
theorem d_tb_drawn_40 : decode prog_1_method_27_code 40 = .ok (.ireturn, 1) := by decide +kernel
theorem d_tb_drawn_41 : decode prog_1_method_27_code 41 = .ok (.iconst 0, 1) := by decide +kernel
theorem d_tb_drawn_42 : decode prog_1_method_27_code 42 = .ok (.istore 4, 2) := by decide +kernel
theorem d_tb_drawn_44 : decode prog_1_method_27_code 44 = .ok (.iconst 0, 1) := by decide +kernel
theorem d_tb_drawn_45 : decode prog_1_method_27_code 45 = .ok (.istore 5, 2) := by decide +kernel
theorem d_tb_drawn_47 : decode prog_1_method_27_code 47 = .ok (.iload_n 2, 1) := by decide +kernel
theorem d_tb_drawn_48 : decode prog_1_method_27_code 48 = .ok (.istore 6, 2) := by decide +kernel
theorem d_tb_drawn_50 : decode prog_1_method_27_code 50 = .ok (.iconst 0, 1) := by decide +kernel
theorem d_tb_drawn_51 : decode prog_1_method_27_code 51 = .ok (.istore 7, 2) := by decide +kernel
theorem d_tb_drawn_53 : decode prog_1_method_27_code 53 = .ok (.iload 7, 2) := by decide +kernel
theorem d_tb_drawn_55 : decode prog_1_method_27_code 55 = .ok (.iload_n 1, 1) := by decide +kernel
theorem d_tb_drawn_56 : decode prog_1_method_27_code 56 = .ok (.if_icmp .ge 89, 3) := by decide +kernel
theorem d_tb_drawn_59 : decode prog_1_method_27_code 59 = .ok (.iload 6, 2) := by decide +kernel
theorem d_tb_drawn_61 : decode prog_1_method_27_code 61 = .ok (.invokestatic 158, 3) := by decide +kernel
theorem d_tb_drawn_64 : decode prog_1_method_27_code 64 = .ok (.istore 6, 2) := by decide +kernel
theorem d_tb_drawn_66 : decode prog_1_method_27_code 66 = .ok (.iload 6, 2) := by decide +kernel
theorem d_tb_drawn_68 : decode prog_1_method_27_code 68 = .ok (.bipush 16, 2) := by decide +kernel
theorem d_tb_drawn_70 : decode prog_1_method_27_code 70 = .ok (.ishr, 1) := by decide +kernel
theorem d_tb_drawn_71 : decode prog_1_method_27_code 71 = .ok (.aload_n 0, 1) := by decide +kernel
theorem d_tb_drawn_72 : decode prog_1_method_27_code 72 = .ok (.getfield 19, 3) := by decide +kernel
theorem d_tb_drawn_75 : decode prog_1_method_27_code 75 = .ok (.getfield 63, 3) := by decide +kernel
theorem d_tb_drawn_78 : decode prog_1_method_27_code 78 = .ok (.irem, 1) := by decide +kernel
theorem d_tb_drawn_79 : decode prog_1_method_27_code 79 = .ok (.istore 8, 2) := by decide +kernel
theorem d_tb_drawn_81 : decode prog_1_method_27_code 81 = .ok (.iload 6, 2) := by decide +kernel
theorem d_tb_drawn_83 : decode prog_1_method_27_code 83 = .ok (.invokestatic 158, 3) := by decide +kernel
theorem d_tb_drawn_86 : decode prog_1_method_27_code 86 = .ok (.istore 6, 2) := by decide +kernel
theorem d_tb_drawn_88 : decode prog_1_method_27_code 88 = .ok (.aload_n 0, 1) := by decide +kernel
theorem d_tb_drawn_89 : decode prog_1_method_27_code 89 = .ok (.getfield 19, 3) := by decide +kernel
theorem d_tb_drawn_92 : decode prog_1_method_27_code 92 = .ok (.iload 8, 2) := by decide +kernel
theorem d_tb_drawn_94 : decode prog_1_method_27_code 94 = .ok (.iload 6, 2) := by decide +kernel
theorem d_tb_drawn_96 : decode prog_1_method_27_code 96 = .ok (.bipush 16, 2) := by decide +kernel
theorem d_tb_drawn_98 : decode prog_1_method_27_code 98 = .ok (.ishr, 1) := by decide +kernel
theorem d_tb_drawn_99 : decode prog_1_method_27_code 99 = .ok (.sipush 1440, 3) := by decide +kernel
theorem d_tb_drawn_102 : decode prog_1_method_27_code 102 = .ok (.irem, 1) := by decide +kernel
theorem d_tb_drawn_103 : decode prog_1_method_27_code 103 = .ok (.invokevirtual 121, 3) := by decide +kernel
theorem d_tb_drawn_106 : decode prog_1_method_27_code 106 = .ok (.istore 9, 2) := by decide +kernel
theorem d_tb_drawn_108 : decode prog_1_method_27_code 108 = .ok (.iload 9, 2) := by decide +kernel
theorem d_tb_drawn_110 : decode prog_1_method_27_code 110 = .ok (.bipush 10, 2) := by decide +kernel
theorem d_tb_drawn_112 : decode prog_1_method_27_code 112 = .ok (.aload_n 0, 1) := by decide +kernel
theorem d_tb_drawn_113 : decode prog_1_method_27_code 113 = .ok (.getfield 19, 3) := by decide +kernel
theorem d_tb_drawn_116 : decode prog_1_method_27_code 116 = .ok (.getfield 68, 3) := by decide +kernel
theorem d_tb_drawn_119 : decode prog_1_method_27_code 119 = .ok (.iload 8, 2) := by decide +kernel
theorem d_tb_drawn_121 : decode prog_1_method_27_code 121 = .ok (.aaload, 1) := by decide +kernel
theorem d_tb_drawn_122 : decode prog_1_method_27_code 122 = .ok (.getfield 77, 3) := by decide +kernel
theorem d_tb_drawn_125 : decode prog_1_method_27_code 125 = .ok (.imul, 1) := by decide +kernel
theorem d_tb_drawn_126 : decode prog_1_method_27_code 126 = .ok (.if_icmp .lt 6, 3) := by decide +kernel
theorem d_tb_drawn_129 : decode prog_1_method_27_code 129 = .ok (.iinc 4 1, 3) := by decide +kernel
theorem d_tb_drawn_132 : decode prog_1_method_27_code 132 = .ok (.iload 5, 2) := by decide +kernel
theorem d_tb_drawn_134 : decode prog_1_method_27_code 134 = .ok (.iload 9, 2) := by decide +kernel
theorem d_tb_drawn_136 : decode prog_1_method_27_code 136 = .ok (.iadd, 1) := by decide +kernel
theorem d_tb_drawn_137 : decode prog_1_method_27_code 137 = .ok (.istore 5, 2) := by decide +kernel
theorem d_tb_drawn_139 : decode prog_1_method_27_code 139 = .ok (.iinc 7 1, 3) := by decide +kernel
theorem d_tb_drawn_142 : decode prog_1_method_27_code 142 = .ok (.goto (-89), 3) := by decide +kernel
theorem d_tb_drawn_145 : decode prog_1_method_27_code 145 = .ok (.iload_n 3, 1) := by decide +kernel
theorem d_tb_drawn_146 : decode prog_1_method_27_code 146 = .ok (.ifCond .ne 8, 3) := by decide +kernel
theorem d_tb_drawn_149 : decode prog_1_method_27_code 149 = .ok (.iload 4, 2) := by decide +kernel
theorem d_tb_drawn_151 : decode prog_1_method_27_code 151 = .ok (.goto 15, 3) := by decide +kernel
theorem d_tb_drawn_154 : decode prog_1_method_27_code 154 = .ok (.iload_n 3, 1) := by decide +kernel
theorem d_tb_drawn_155 : decode prog_1_method_27_code 155 = .ok (.iconst 1, 1) := by decide +kernel
theorem d_tb_drawn_156 : decode prog_1_method_27_code 156 = .ok (.if_icmp .ne 8, 3) := by decide +kernel
theorem d_tb_drawn_159 : decode prog_1_method_27_code 159 = .ok (.iload 5, 2) := by decide +kernel
theorem d_tb_drawn_161 : decode prog_1_method_27_code 161 = .ok (.goto 5, 3) := by decide +kernel
theorem d_tb_drawn_164 : decode prog_1_method_27_code 164 = .ok (.iload 6, 2) := by decide +kernel
theorem d_tb_drawn_166 : decode prog_1_method_27_code 166 = .ok (.ireturn, 1) := by decide +kernel
theorem d_tb_image_0 : decode prog_1_method_28_code 0 = .ok (.aload_n 0, 1) := by decide +kernel
theorem d_tb_image_1 : decode prog_1_method_28_code 1 = .ok (.getfield 19, 3) := by decide +kernel
theorem d_tb_image_4 : decode prog_1_method_28_code 4 = .ok (.getfield 63, 3) := by decide +kernel
theorem d_tb_image_7 : decode prog_1_method_28_code 7 = .ok (.ifCond .ne 7, 3) := by decide +kernel
theorem d_tb_image_10 : decode prog_1_method_28_code 10 = .ok (.sipush (-10103), 3) := by decide +kernel
theorem d_tb_image_13 : decode prog_1_method_28_code 13 = .ok (.ireturn, 1) := by decide +kernel
theorem d_tb_image_14 : decode prog_1_method_28_code 14 = .ok (.aload_n 0, 1) := by decide +kernel
theorem d_tb_image_15 : decode prog_1_method_28_code 15 = .ok (.getfield 23, 3) := by decide +kernel
theorem d_tb_image_18 : decode prog_1_method_28_code 18 = .ok (.aload_n 0, 1) := by decide +kernel
theorem d_tb_image_19 : decode prog_1_method_28_code 19 = .ok (.getfield 19, 3) := by decide +kernel
theorem d_tb_image_22 : decode prog_1_method_28_code 22 = .ok (.invokevirtual 161, 3) := by decide +kernel
theorem d_tb_image_25 : decode prog_1_method_28_code 25 = .ok (.aload_n 0, 1) := by decide +kernel
theorem d_tb_image_26 : decode prog_1_method_28_code 26 = .ok (.iconst 1, 1) := by decide +kernel
theorem d_tb_image_27 : decode prog_1_method_28_code 27 = .ok (.putfield 56, 3) := by decide +kernel
theorem d_tb_image_30 : decode prog_1_method_28_code 30 = .ok (.aload_n 0, 1) := by decide +kernel
theorem d_tb_image_31 : decode prog_1_method_28_code 31 = .ok (.getfield 19, 3) := by decide +kernel
theorem d_tb_image_34 : decode prog_1_method_28_code 34 = .ok (.getfield 63, 3) := by decide +kernel
theorem d_tb_image_37 : decode prog_1_method_28_code 37 = .ok (.ireturn, 1) := by decide +kernel
theorem d_tb_restore_0 : decode prog_1_method_29_code 0 = .ok (.aload_n 0, 1) := by decide +kernel
theorem d_tb_restore_1 : decode prog_1_method_29_code 1 = .ok (.getfield 56, 3) := by decide +kernel
theorem d_tb_restore_4 : decode prog_1_method_29_code 4 = .ok (.ifCond .ne 7, 3) := by decide +kernel
theorem d_tb_restore_7 : decode prog_1_method_29_code 7 = .ok (.sipush (-10103), 3) := by decide +kernel
theorem d_tb_restore_10 : decode prog_1_method_29_code 10 = .ok (.ireturn, 1) := by decide +kernel
theorem d_tb_restore_11 : decode prog_1_method_29_code 11 = .ok (.aload_n 0, 1) := by decide +kernel
theorem d_tb_restore_12 : decode prog_1_method_29_code 12 = .ok (.getfield 19, 3) := by decide +kernel
theorem d_tb_restore_15 : decode prog_1_method_29_code 15 = .ok (.aload_n 0, 1) := by decide +kernel
theorem d_tb_restore_16 : decode prog_1_method_29_code 16 = .ok (.getfield 23, 3) := by decide +kernel
theorem d_tb_restore_19 : decode prog_1_method_29_code 19 = .ok (.invokevirtual 161, 3) := by decide +kernel
theorem d_tb_restore_22 : decode prog_1_method_29_code 22 = .ok (.aload_n 0, 1) := by decide +kernel
theorem d_tb_restore_23 : decode prog_1_method_29_code 23 = .ok (.getfield 19, 3) := by decide +kernel
theorem d_tb_restore_26 : decode prog_1_method_29_code 26 = .ok (.getfield 63, 3) := by decide +kernel
theorem d_tb_restore_29 : decode prog_1_method_29_code 29 = .ok (.ireturn, 1) := by decide +kernel
theorem d_tb_count_0 : decode prog_1_method_30_code 0 = .ok (.iload_n 1, 1) := by decide +kernel
theorem d_tb_count_1 : decode prog_1_method_30_code 1 = .ok (.tableswitch 96 0 6 #[43, 51, 59, 67, 75, 83, 91], 43) := by decide +kernel
theorem d_tb_count_44 : decode prog_1_method_30_code 44 = .ok (.aload_n 0, 1) := by decide +kernel
theorem d_tb_count_45 : decode prog_1_method_30_code 45 = .ok (.getfield 19, 3) := by decide +kernel
theorem d_tb_count_48 : decode prog_1_method_30_code 48 = .ok (.getfield 63, 3) := by decide +kernel
theorem d_tb_count_51 : decode prog_1_method_30_code 51 = .ok (.ireturn, 1) := by decide +kernel
theorem d_tb_count_52 : decode prog_1_method_30_code 52 = .ok (.aload_n 0, 1) := by decide +kernel
theorem d_tb_count_53 : decode prog_1_method_30_code 53 = .ok (.getfield 19, 3) := by decide +kernel
theorem d_tb_count_56 : decode prog_1_method_30_code 56 = .ok (.invokevirtual 164, 3) := by decide +kernel
theorem d_tb_count_59 : decode prog_1_method_30_code 59 = .ok (.ireturn, 1) := by decide +kernel
theorem d_tb_count_60 : decode prog_1_method_30_code 60 = .ok (.aload_n 0, 1) := by decide +kernel
theorem d_tb_count_61 : decode prog_1_method_30_code 61 = .ok (.getfield 19, 3) := by decide +kernel
theorem d_tb_count_64 : decode prog_1_method_30_code 64 = .ok (.invokevirtual 167, 3) := by decide +kernel
theorem d_tb_count_67 : decode prog_1_method_30_code 67 = .ok (.ireturn, 1) := by decide +kernel
theorem d_tb_count_68 : decode prog_1_method_30_code 68 = .ok (.aload_n 0, 1) := by decide +kernel
theorem d_tb_count_69 : decode prog_1_method_30_code 69 = .ok (.getfield 19, 3) := by decide +kernel
theorem d_tb_count_72 : decode prog_1_method_30_code 72 = .ok (.invokevirtual 170, 3) := by decide +kernel
theorem d_tb_count_75 : decode prog_1_method_30_code 75 = .ok (.ireturn, 1) := by decide +kernel
theorem d_tb_count_76 : decode prog_1_method_30_code 76 = .ok (.aload_n 0, 1) := by decide +kernel
theorem d_tb_count_77 : decode prog_1_method_30_code 77 = .ok (.getfield 19, 3) := by decide +kernel
theorem d_tb_count_80 : decode prog_1_method_30_code 80 = .ok (.getfield 155, 3) := by decide +kernel
theorem d_tb_count_83 : decode prog_1_method_30_code 83 = .ok (.ireturn, 1) := by decide +kernel
theorem d_tb_count_84 : decode prog_1_method_30_code 84 = .ok (.aload_n 0, 1) := by decide +kernel
theorem d_tb_count_85 : decode prog_1_method_30_code 85 = .ok (.getfield 12, 3) := by decide +kernel
theorem d_tb_count_88 : decode prog_1_method_30_code 88 = .ok (.getfield 37, 3) := by decide +kernel
theorem d_tb_count_91 : decode prog_1_method_30_code 91 = .ok (.ireturn, 1) := by decide +kernel
theorem d_tb_count_92 : decode prog_1_method_30_code 92 = .ok (.aload_n 0, 1) := by decide +kernel
theorem d_tb_count_93 : decode prog_1_method_30_code 93 = .ok (.getfield 60, 3) := by decide +kernel
theorem d_tb_count_96 : decode prog_1_method_30_code 96 = .ok (.ireturn, 1) := by decide +kernel
theorem d_tb_count_97 : decode prog_1_method_30_code 97 = .ok (.sipush (-10102), 3) := by decide +kernel
theorem d_tb_count_100 : decode prog_1_method_30_code 100 = .ok (.ireturn, 1) := by decide +kernel
theorem d_tb_digest_0 : decode prog_1_method_31_code 0 = .ok (.ldc2_w 173, 3) := by decide +kernel
theorem d_tb_digest_3 : decode prog_1_method_31_code 3 = .ok (.lstore_n 1, 1) := by decide +kernel
theorem d_tb_digest_4 : decode prog_1_method_31_code 4 = .ok (.iconst 0, 1) := by decide +kernel
theorem d_tb_digest_5 : decode prog_1_method_31_code 5 = .ok (.istore_n 3, 1) := by decide +kernel
theorem d_tb_digest_6 : decode prog_1_method_31_code 6 = .ok (.iload_n 3, 1) := by decide +kernel
theorem d_tb_digest_7 : decode prog_1_method_31_code 7 = .ok (.aload_n 0, 1) := by decide +kernel
theorem d_tb_digest_8 : decode prog_1_method_31_code 8 = .ok (.getfield 19, 3) := by decide +kernel
theorem d_tb_digest_11 : decode prog_1_method_31_code 11 = .ok (.getfield 63, 3) := by decide +kernel
theorem d_tb_digest_14 : decode prog_1_method_31_code 14 = .ok (.if_icmp .ge 16, 3) := by decide +kernel
theorem d_tb_digest_17 : decode prog_1_method_31_code 17 = .ok (.aload_n 0, 1) := by decide +kernel
theorem d_tb_digest_18 : decode prog_1_method_31_code 18 = .ok (.lload_n 1, 1) := by decide +kernel
theorem d_tb_digest_19 : decode prog_1_method_31_code 19 = .ok (.iload_n 3, 1) := by decide +kernel
theorem d_tb_digest_20 : decode prog_1_method_31_code 20 = .ok (.invokevirtual 175, 3) := by decide +kernel
theorem d_tb_digest_23 : decode prog_1_method_31_code 23 = .ok (.lstore_n 1, 1) := by decide +kernel
theorem d_tb_digest_24 : decode prog_1_method_31_code 24 = .ok (.iinc 3 1, 3) := by decide +kernel
theorem d_tb_digest_27 : decode prog_1_method_31_code 27 = .ok (.goto (-21), 3) := by decide +kernel
theorem d_tb_digest_30 : decode prog_1_method_31_code 30 = .ok (.iconst 0, 1) := by decide +kernel
theorem d_tb_digest_31 : decode prog_1_method_31_code 31 = .ok (.istore_n 3, 1) := by decide +kernel
theorem d_tb_digest_32 : decode prog_1_method_31_code 32 = .ok (.iload_n 3, 1) := by decide +kernel
theorem d_tb_digest_33 : decode prog_1_method_31_code 33 = .ok (.aload_n 0, 1) := by decide +kernel
theorem d_tb_digest_34 : decode prog_1_method_31_code 34 = .ok (.getfield 12, 3) := by decide +kernel
theorem d_tb_digest_37 : decode prog_1_method_31_code 37 = .ok (.getfield 37, 3) := by decide +kernel
theorem d_tb_digest_40 : decode prog_1_method_31_code 40 = .ok (.if_icmp .ge 23, 3) := by decide +kernel
theorem d_tb_digest_43 : decode prog_1_method_31_code 43 = .ok (.lload_n 1, 1) := by decide +kernel
theorem d_tb_digest_44 : decode prog_1_method_31_code 44 = .ok (.aload_n 0, 1) := by decide +kernel
theorem d_tb_digest_45 : decode prog_1_method_31_code 45 = .ok (.getfield 12, 3) := by decide +kernel
theorem d_tb_digest_48 : decode prog_1_method_31_code 48 = .ok (.getfield 41, 3) := by decide +kernel
theorem d_tb_digest_51 : decode prog_1_method_31_code 51 = .ok (.iload_n 3, 1) := by decide +kernel
theorem d_tb_digest_52 : decode prog_1_method_31_code 52 = .ok (.iaload, 1) := by decide +kernel
theorem d_tb_digest_53 : decode prog_1_method_31_code 53 = .ok (.invokestatic 179, 3) := by decide +kernel
theorem d_tb_digest_56 : decode prog_1_method_31_code 56 = .ok (.lstore_n 1, 1) := by decide +kernel
theorem d_tb_digest_57 : decode prog_1_method_31_code 57 = .ok (.iinc 3 1, 3) := by decide +kernel
theorem d_tb_digest_60 : decode prog_1_method_31_code 60 = .ok (.goto (-28), 3) := by decide +kernel
theorem d_tb_digest_63 : decode prog_1_method_31_code 63 = .ok (.iconst 0, 1) := by decide +kernel
theorem d_tb_digest_64 : decode prog_1_method_31_code 64 = .ok (.istore_n 3, 1) := by decide +kernel
theorem d_tb_digest_65 : decode prog_1_method_31_code 65 = .ok (.iload_n 3, 1) := by decide +kernel
theorem d_tb_digest_66 : decode prog_1_method_31_code 66 = .ok (.bipush 6, 2) := by decide +kernel
theorem d_tb_digest_68 : decode prog_1_method_31_code 68 = .ok (.if_icmp .gt 19, 3) := by decide +kernel
theorem d_tb_digest_71 : decode prog_1_method_31_code 71 = .ok (.lload_n 1, 1) := by decide +kernel
theorem d_tb_digest_72 : decode prog_1_method_31_code 72 = .ok (.aload_n 0, 1) := by decide +kernel
theorem d_tb_digest_73 : decode prog_1_method_31_code 73 = .ok (.iload_n 3, 1) := by decide +kernel
theorem d_tb_digest_74 : decode prog_1_method_31_code 74 = .ok (.invokevirtual 182, 3) := by decide +kernel
theorem d_tb_digest_77 : decode prog_1_method_31_code 77 = .ok (.invokestatic 179, 3) := by decide +kernel
theorem d_tb_digest_80 : decode prog_1_method_31_code 80 = .ok (.lstore_n 1, 1) := by decide +kernel
theorem d_tb_digest_81 : decode prog_1_method_31_code 81 = .ok (.iinc 3 1, 3) := by decide +kernel
theorem d_tb_digest_84 : decode prog_1_method_31_code 84 = .ok (.goto (-19), 3) := by decide +kernel
theorem d_tb_digest_87 : decode prog_1_method_31_code 87 = .ok (.lload_n 1, 1) := by decide +kernel
theorem d_tb_digest_88 : decode prog_1_method_31_code 88 = .ok (.lreturn, 1) := by decide +kernel
theorem d_tb_withPort_0 : decode prog_1_method_32_code 0 = .ok (.lload_n 1, 1) := by decide +kernel
theorem d_tb_withPort_1 : decode prog_1_method_32_code 1 = .ok (.lstore 4, 2) := by decide +kernel
theorem d_tb_withPort_3 : decode prog_1_method_32_code 3 = .ok (.iconst 0, 1) := by decide +kernel
theorem d_tb_withPort_4 : decode prog_1_method_32_code 4 = .ok (.istore 6, 2) := by decide +kernel
theorem d_tb_withPort_6 : decode prog_1_method_32_code 6 = .ok (.iload 6, 2) := by decide +kernel
theorem d_tb_withPort_8 : decode prog_1_method_32_code 8 = .ok (.bipush 6, 2) := by decide +kernel
theorem d_tb_withPort_10 : decode prog_1_method_32_code 10 = .ok (.if_icmp .gt 23, 3) := by decide +kernel
theorem d_tb_withPort_13 : decode prog_1_method_32_code 13 = .ok (.lload 4, 2) := by decide +kernel
theorem d_tb_withPort_15 : decode prog_1_method_32_code 15 = .ok (.aload_n 0, 1) := by decide +kernel
theorem d_tb_withPort_16 : decode prog_1_method_32_code 16 = .ok (.iload_n 3, 1) := by decide +kernel
theorem d_tb_withPort_17 : decode prog_1_method_32_code 17 = .ok (.iload 6, 2) := by decide +kernel
theorem d_tb_withPort_19 : decode prog_1_method_32_code 19 = .ok (.invokevirtual 185, 3) := by decide +kernel
theorem d_tb_withPort_22 : decode prog_1_method_32_code 22 = .ok (.invokestatic 179, 3) := by decide +kernel
theorem d_tb_withPort_25 : decode prog_1_method_32_code 25 = .ok (.lstore 4, 2) := by decide +kernel
theorem d_tb_withPort_27 : decode prog_1_method_32_code 27 = .ok (.iinc 6 1, 3) := by decide +kernel
theorem d_tb_withPort_30 : decode prog_1_method_32_code 30 = .ok (.goto (-24), 3) := by decide +kernel
theorem d_tb_withPort_33 : decode prog_1_method_32_code 33 = .ok (.iconst 0, 1) := by decide +kernel
theorem d_tb_withPort_34 : decode prog_1_method_32_code 34 = .ok (.istore 6, 2) := by decide +kernel
theorem d_tb_withPort_36 : decode prog_1_method_32_code 36 = .ok (.iload 6, 2) := by decide +kernel
theorem d_tb_withPort_38 : decode prog_1_method_32_code 38 = .ok (.aload_n 0, 1) := by decide +kernel
theorem d_tb_withPort_39 : decode prog_1_method_32_code 39 = .ok (.getfield 19, 3) := by decide +kernel
theorem d_tb_withPort_42 : decode prog_1_method_32_code 42 = .ok (.getfield 68, 3) := by decide +kernel
theorem d_tb_withPort_45 : decode prog_1_method_32_code 45 = .ok (.iload_n 3, 1) := by decide +kernel
theorem d_tb_withPort_46 : decode prog_1_method_32_code 46 = .ok (.aaload, 1) := by decide +kernel
theorem d_tb_withPort_47 : decode prog_1_method_32_code 47 = .ok (.getfield 86, 3) := by decide +kernel
theorem d_tb_withPort_50 : decode prog_1_method_32_code 50 = .ok (.if_icmp .ge 40, 3) := by decide +kernel
theorem d_tb_withPort_53 : decode prog_1_method_32_code 53 = .ok (.iconst 0, 1) := by decide +kernel
theorem d_tb_withPort_54 : decode prog_1_method_32_code 54 = .ok (.istore 7, 2) := by decide +kernel
theorem d_tb_withPort_56 : decode prog_1_method_32_code 56 = .ok (.iload 7, 2) := by decide +kernel
theorem d_tb_withPort_58 : decode prog_1_method_32_code 58 = .ok (.iconst 2, 1) := by decide +kernel
theorem d_tb_withPort_59 : decode prog_1_method_32_code 59 = .ok (.if_icmp .gt 25, 3) := by decide +kernel
theorem d_tb_withPort_62 : decode prog_1_method_32_code 62 = .ok (.lload 4, 2) := by decide +kernel
theorem d_tb_withPort_64 : decode prog_1_method_32_code 64 = .ok (.aload_n 0, 1) := by decide +kernel
theorem d_tb_withPort_65 : decode prog_1_method_32_code 65 = .ok (.iload_n 3, 1) := by decide +kernel
theorem d_tb_withPort_66 : decode prog_1_method_32_code 66 = .ok (.iload 6, 2) := by decide +kernel
theorem d_tb_withPort_68 : decode prog_1_method_32_code 68 = .ok (.iload 7, 2) := by decide +kernel
theorem d_tb_withPort_70 : decode prog_1_method_32_code 70 = .ok (.invokevirtual 188, 3) := by decide +kernel
theorem d_tb_withPort_73 : decode prog_1_method_32_code 73 = .ok (.invokestatic 179, 3) := by decide +kernel
theorem d_tb_withPort_76 : decode prog_1_method_32_code 76 = .ok (.lstore 4, 2) := by decide +kernel
theorem d_tb_withPort_78 : decode prog_1_method_32_code 78 = .ok (.iinc 7 1, 3) := by decide +kernel
theorem d_tb_withPort_81 : decode prog_1_method_32_code 81 = .ok (.goto (-25), 3) := by decide +kernel
theorem d_tb_withPort_84 : decode prog_1_method_32_code 84 = .ok (.iinc 6 1, 3) := by decide +kernel
theorem d_tb_withPort_87 : decode prog_1_method_32_code 87 = .ok (.goto (-51), 3) := by decide +kernel
theorem d_tb_withPort_90 : decode prog_1_method_32_code 90 = .ok (.getstatic 192, 3) := by decide +kernel
theorem d_tb_withPort_93 : decode prog_1_method_32_code 93 = .ok (.astore 6, 2) := by decide +kernel
theorem d_tb_withPort_95 : decode prog_1_method_32_code 95 = .ok (.aload 6, 2) := by decide +kernel
theorem d_tb_withPort_97 : decode prog_1_method_32_code 97 = .ok (.arraylength, 1) := by decide +kernel
theorem d_tb_withPort_98 : decode prog_1_method_32_code 98 = .ok (.istore 7, 2) := by decide +kernel
theorem d_tb_withPort_100 : decode prog_1_method_32_code 100 = .ok (.iconst 0, 1) := by decide +kernel
theorem d_tb_withPort_101 : decode prog_1_method_32_code 101 = .ok (.istore 8, 2) := by decide +kernel
theorem d_tb_withPort_103 : decode prog_1_method_32_code 103 = .ok (.iload 8, 2) := by decide +kernel
theorem d_tb_withPort_105 : decode prog_1_method_32_code 105 = .ok (.iload 7, 2) := by decide +kernel
theorem d_tb_withPort_107 : decode prog_1_method_32_code 107 = .ok (.if_icmp .ge 54, 3) := by decide +kernel
theorem d_tb_withPort_110 : decode prog_1_method_32_code 110 = .ok (.aload 6, 2) := by decide +kernel
theorem d_tb_withPort_112 : decode prog_1_method_32_code 112 = .ok (.iload 8, 2) := by decide +kernel
theorem d_tb_withPort_114 : decode prog_1_method_32_code 114 = .ok (.iaload, 1) := by decide +kernel
theorem d_tb_withPort_115 : decode prog_1_method_32_code 115 = .ok (.istore 9, 2) := by decide +kernel
theorem d_tb_withPort_117 : decode prog_1_method_32_code 117 = .ok (.lload 4, 2) := by decide +kernel
theorem d_tb_withPort_119 : decode prog_1_method_32_code 119 = .ok (.aload_n 0, 1) := by decide +kernel
theorem d_tb_withPort_120 : decode prog_1_method_32_code 120 = .ok (.getfield 19, 3) := by decide +kernel
theorem d_tb_withPort_123 : decode prog_1_method_32_code 123 = .ok (.getfield 68, 3) := by decide +kernel
theorem d_tb_withPort_126 : decode prog_1_method_32_code 126 = .ok (.iload_n 3, 1) := by decide +kernel
theorem d_tb_withPort_127 : decode prog_1_method_32_code 127 = .ok (.aaload, 1) := by decide +kernel
theorem d_tb_withPort_128 : decode prog_1_method_32_code 128 = .ok (.iload 9, 2) := by decide +kernel
theorem d_tb_withPort_130 : decode prog_1_method_32_code 130 = .ok (.invokevirtual 118, 3) := by decide +kernel
theorem d_tb_withPort_133 : decode prog_1_method_32_code 133 = .ok (.invokestatic 179, 3) := by decide +kernel
theorem d_tb_withPort_136 : decode prog_1_method_32_code 136 = .ok (.lstore 4, 2) := by decide +kernel
theorem d_tb_withPort_138 : decode prog_1_method_32_code 138 = .ok (.lload 4, 2) := by decide +kernel
theorem d_tb_withPort_140 : decode prog_1_method_32_code 140 = .ok (.aload_n 0, 1) := by decide +kernel
theorem d_tb_withPort_141 : decode prog_1_method_32_code 141 = .ok (.getfield 19, 3) := by decide +kernel
theorem d_tb_withPort_144 : decode prog_1_method_32_code 144 = .ok (.iload_n 3, 1) := by decide +kernel
theorem d_tb_withPort_145 : decode prog_1_method_32_code 145 = .ok (.iload 9, 2) := by decide +kernel
theorem d_tb_withPort_147 : decode prog_1_method_32_code 147 = .ok (.invokevirtual 121, 3) := by decide +kernel
theorem d_tb_withPort_150 : decode prog_1_method_32_code 150 = .ok (.invokestatic 179, 3) := by decide +kernel
theorem d_tb_withPort_153 : decode prog_1_method_32_code 153 = .ok (.lstore 4, 2) := by decide +kernel
theorem d_tb_withPort_155 : decode prog_1_method_32_code 155 = .ok (.iinc 8 1, 3) := by decide +kernel
theorem d_tb_withPort_158 : decode prog_1_method_32_code 158 = .ok (.goto (-55), 3) := by decide +kernel
theorem d_tb_withPort_161 : decode prog_1_method_32_code 161 = .ok (.lload 4, 2) := by decide +kernel
theorem d_tb_withPort_163 : decode prog_1_method_32_code 163 = .ok (.lreturn, 1) := by decide +kernel
theorem d_tb_with_0 : decode prog_1_method_33_code 0 = .ok (.ldc2_w 195, 3) := by decide +kernel
theorem d_tb_with_3 : decode prog_1_method_33_code 3 = .ok (.lload_n 0, 1) := by decide +kernel
theorem d_tb_with_4 : decode prog_1_method_33_code 4 = .ok (.lmul, 1) := by decide +kernel
theorem d_tb_with_5 : decode prog_1_method_33_code 5 = .ok (.iload_n 2, 1) := by decide +kernel
theorem d_tb_with_6 : decode prog_1_method_33_code 6 = .ok (.i2l, 1) := by decide +kernel
theorem d_tb_with_7 : decode prog_1_method_33_code 7 = .ok (.ladd, 1) := by decide +kernel
theorem d_tb_with_8 : decode prog_1_method_33_code 8 = .ok (.lreturn, 1) := by decide +kernel
theorem d_tb_within_0 : decode prog_1_method_34_code 0 = .ok (.iload_n 0, 1) := by decide +kernel
theorem d_tb_within_1 : decode prog_1_method_34_code 1 = .ok (.iload_n 1, 1) := by decide +kernel
theorem d_tb_within_2 : decode prog_1_method_34_code 2 = .ok (.if_icmp .lt 12, 3) := by decide +kernel
theorem d_tb_within_5 : decode prog_1_method_34_code 5 = .ok (.iload_n 0, 1) := by decide +kernel
theorem d_tb_within_6 : decode prog_1_method_34_code 6 = .ok (.iload_n 2, 1) := by decide +kernel
theorem d_tb_within_7 : decode prog_1_method_34_code 7 = .ok (.if_icmp .gt 7, 3) := by decide +kernel
theorem d_tb_within_10 : decode prog_1_method_34_code 10 = .ok (.iconst 1, 1) := by decide +kernel
theorem d_tb_within_11 : decode prog_1_method_34_code 11 = .ok (.goto 4, 3) := by decide +kernel
theorem d_tb_within_14 : decode prog_1_method_34_code 14 = .ok (.iconst 0, 1) := by decide +kernel
theorem d_tb_within_15 : decode prog_1_method_34_code 15 = .ok (.ireturn, 1) := by decide +kernel
theorem d_tb_roundAt_0 : decode prog_1_method_35_code 0 = .ok (.iload_n 0, 1) := by decide +kernel
theorem d_tb_roundAt_1 : decode prog_1_method_35_code 1 = .ok (.bipush 63, 2) := by decide +kernel
theorem d_tb_roundAt_3 : decode prog_1_method_35_code 3 = .ok (.iand, 1) := by decide +kernel
theorem d_tb_roundAt_4 : decode prog_1_method_35_code 4 = .ok (.istore_n 1, 1) := by decide +kernel
theorem d_tb_roundAt_5 : decode prog_1_method_35_code 5 = .ok (.iload_n 1, 1) := by decide +kernel
theorem d_tb_roundAt_6 : decode prog_1_method_35_code 6 = .ok (.bipush 32, 2) := by decide +kernel
theorem d_tb_roundAt_8 : decode prog_1_method_35_code 8 = .ok (.if_icmp .le 8, 3) := by decide +kernel
theorem d_tb_roundAt_11 : decode prog_1_method_35_code 11 = .ok (.bipush 64, 2) := by decide +kernel
theorem d_tb_roundAt_13 : decode prog_1_method_35_code 13 = .ok (.iload_n 1, 1) := by decide +kernel
theorem d_tb_roundAt_14 : decode prog_1_method_35_code 14 = .ok (.isub, 1) := by decide +kernel
theorem d_tb_roundAt_15 : decode prog_1_method_35_code 15 = .ok (.istore_n 1, 1) := by decide +kernel
theorem d_tb_roundAt_16 : decode prog_1_method_35_code 16 = .ok (.iload_n 1, 1) := by decide +kernel
theorem d_tb_roundAt_17 : decode prog_1_method_35_code 17 = .ok (.bipush 16, 2) := by decide +kernel
theorem d_tb_roundAt_19 : decode prog_1_method_35_code 19 = .ok (.if_icmp .le 15, 3) := by decide +kernel
theorem d_tb_roundAt_22 : decode prog_1_method_35_code 22 = .ok (.getstatic 197, 3) := by decide +kernel
theorem d_tb_roundAt_25 : decode prog_1_method_35_code 25 = .ok (.bipush 32, 2) := by decide +kernel
theorem d_tb_roundAt_27 : decode prog_1_method_35_code 27 = .ok (.iload_n 1, 1) := by decide +kernel
theorem d_tb_roundAt_28 : decode prog_1_method_35_code 28 = .ok (.isub, 1) := by decide +kernel
theorem d_tb_roundAt_29 : decode prog_1_method_35_code 29 = .ok (.iaload, 1) := by decide +kernel
theorem d_tb_roundAt_30 : decode prog_1_method_35_code 30 = .ok (.ineg, 1) := by decide +kernel
theorem d_tb_roundAt_31 : decode prog_1_method_35_code 31 = .ok (.goto 8, 3) := by decide +kernel
theorem d_tb_roundAt_34 : decode prog_1_method_35_code 34 = .ok (.getstatic 197, 3) := by decide +kernel
theorem d_tb_roundAt_37 : decode prog_1_method_35_code 37 = .ok (.iload_n 1, 1) := by decide +kernel
theorem d_tb_roundAt_38 : decode prog_1_method_35_code 38 = .ok (.iaload, 1) := by decide +kernel
theorem d_tb_roundAt_39 : decode prog_1_method_35_code 39 = .ok (.ireturn, 1) := by decide +kernel
theorem d_tb_nextToAsk_0 : decode prog_1_method_36_code 0 = .ok (.iload_n 0, 1) := by decide +kernel
theorem d_tb_nextToAsk_1 : decode prog_1_method_36_code 1 = .ok (.ifCond .ne 7, 3) := by decide +kernel
theorem d_tb_nextToAsk_4 : decode prog_1_method_36_code 4 = .ok (.sipush (-10001), 3) := by decide +kernel
theorem d_tb_nextToAsk_7 : decode prog_1_method_36_code 7 = .ok (.ireturn, 1) := by decide +kernel
theorem d_tb_nextToAsk_8 : decode prog_1_method_36_code 8 = .ok (.iconst 0, 1) := by decide +kernel
theorem d_tb_nextToAsk_9 : decode prog_1_method_36_code 9 = .ok (.istore_n 1, 1) := by decide +kernel
theorem d_tb_nextToAsk_10 : decode prog_1_method_36_code 10 = .ok (.iconst 1, 1) := by decide +kernel
theorem d_tb_nextToAsk_11 : decode prog_1_method_36_code 11 = .ok (.istore_n 2, 1) := by decide +kernel
theorem d_tb_nextToAsk_12 : decode prog_1_method_36_code 12 = .ok (.iload_n 2, 1) := by decide +kernel
theorem d_tb_nextToAsk_13 : decode prog_1_method_36_code 13 = .ok (.getstatic 152, 3) := by decide +kernel
theorem d_tb_nextToAsk_16 : decode prog_1_method_36_code 16 = .ok (.arraylength, 1) := by decide +kernel
theorem d_tb_nextToAsk_17 : decode prog_1_method_36_code 17 = .ok (.if_icmp .ge 32, 3) := by decide +kernel
theorem d_tb_nextToAsk_20 : decode prog_1_method_36_code 20 = .ok (.iload_n 0, 1) := by decide +kernel
theorem d_tb_nextToAsk_21 : decode prog_1_method_36_code 21 = .ok (.getstatic 152, 3) := by decide +kernel
theorem d_tb_nextToAsk_24 : decode prog_1_method_36_code 24 = .ok (.iload_n 2, 1) := by decide +kernel
theorem d_tb_nextToAsk_25 : decode prog_1_method_36_code 25 = .ok (.iaload, 1) := by decide +kernel
theorem d_tb_nextToAsk_26 : decode prog_1_method_36_code 26 = .ok (.invokestatic 200, 3) := by decide +kernel
theorem d_tb_nextToAsk_29 : decode prog_1_method_36_code 29 = .ok (.iload_n 0, 1) := by decide +kernel
theorem d_tb_nextToAsk_30 : decode prog_1_method_36_code 30 = .ok (.getstatic 152, 3) := by decide +kernel
theorem d_tb_nextToAsk_33 : decode prog_1_method_36_code 33 = .ok (.iload_n 1, 1) := by decide +kernel
theorem d_tb_nextToAsk_34 : decode prog_1_method_36_code 34 = .ok (.iaload, 1) := by decide +kernel
theorem d_tb_nextToAsk_35 : decode prog_1_method_36_code 35 = .ok (.invokestatic 200, 3) := by decide +kernel
theorem d_tb_nextToAsk_38 : decode prog_1_method_36_code 38 = .ok (.if_icmp .ge 5, 3) := by decide +kernel
theorem d_tb_nextToAsk_41 : decode prog_1_method_36_code 41 = .ok (.iload_n 2, 1) := by decide +kernel
theorem d_tb_nextToAsk_42 : decode prog_1_method_36_code 42 = .ok (.istore_n 1, 1) := by decide +kernel
theorem d_tb_nextToAsk_43 : decode prog_1_method_36_code 43 = .ok (.iinc 2 1, 3) := by decide +kernel
theorem d_tb_nextToAsk_46 : decode prog_1_method_36_code 46 = .ok (.goto (-34), 3) := by decide +kernel
theorem d_tb_nextToAsk_49 : decode prog_1_method_36_code 49 = .ok (.iload_n 1, 1) := by decide +kernel
theorem d_tb_nextToAsk_50 : decode prog_1_method_36_code 50 = .ok (.ireturn, 1) := by decide +kernel
theorem d_tb_leftAtWorst_0 : decode prog_1_method_37_code 0 = .ok (.iload_n 0, 1) := by decide +kernel
theorem d_tb_leftAtWorst_1 : decode prog_1_method_37_code 1 = .ok (.iload_n 1, 1) := by decide +kernel
theorem d_tb_leftAtWorst_2 : decode prog_1_method_37_code 2 = .ok (.iand, 1) := by decide +kernel
theorem d_tb_leftAtWorst_3 : decode prog_1_method_37_code 3 = .ok (.invokestatic 203, 3) := by decide +kernel
theorem d_tb_leftAtWorst_6 : decode prog_1_method_37_code 6 = .ok (.iload_n 0, 1) := by decide +kernel
theorem d_tb_leftAtWorst_7 : decode prog_1_method_37_code 7 = .ok (.iload_n 1, 1) := by decide +kernel
theorem d_tb_leftAtWorst_8 : decode prog_1_method_37_code 8 = .ok (.iconst (-1), 1) := by decide +kernel
theorem d_tb_leftAtWorst_9 : decode prog_1_method_37_code 9 = .ok (.ixor, 1) := by decide +kernel
theorem d_tb_leftAtWorst_10 : decode prog_1_method_37_code 10 = .ok (.iand, 1) := by decide +kernel
theorem d_tb_leftAtWorst_11 : decode prog_1_method_37_code 11 = .ok (.invokestatic 203, 3) := by decide +kernel
theorem d_tb_leftAtWorst_14 : decode prog_1_method_37_code 14 = .ok (.invokestatic 208, 3) := by decide +kernel
theorem d_tb_leftAtWorst_17 : decode prog_1_method_37_code 17 = .ok (.ireturn, 1) := by decide +kernel
theorem d_tb_nextSeed_0 : decode prog_1_method_38_code 0 = .ok (.ldc 213, 2) := by decide +kernel
theorem d_tb_nextSeed_2 : decode prog_1_method_38_code 2 = .ok (.iload_n 0, 1) := by decide +kernel
theorem d_tb_nextSeed_3 : decode prog_1_method_38_code 3 = .ok (.imul, 1) := by decide +kernel
theorem d_tb_nextSeed_4 : decode prog_1_method_38_code 4 = .ok (.sipush 12345, 3) := by decide +kernel
theorem d_tb_nextSeed_7 : decode prog_1_method_38_code 7 = .ok (.iadd, 1) := by decide +kernel
theorem d_tb_nextSeed_8 : decode prog_1_method_38_code 8 = .ok (.ldc 214, 2) := by decide +kernel
theorem d_tb_nextSeed_10 : decode prog_1_method_38_code 10 = .ok (.iand, 1) := by decide +kernel
theorem d_tb_nextSeed_11 : decode prog_1_method_38_code 11 = .ok (.ireturn, 1) := by decide +kernel
theorem d_tb_placeOfTide_0 : decode prog_1_method_39_code 0 = .ok (.iconst 0, 1) := by decide +kernel
theorem d_tb_placeOfTide_1 : decode prog_1_method_39_code 1 = .ok (.istore_n 2, 1) := by decide +kernel
theorem d_tb_placeOfTide_2 : decode prog_1_method_39_code 2 = .ok (.iconst 1, 1) := by decide +kernel
theorem d_tb_placeOfTide_3 : decode prog_1_method_39_code 3 = .ok (.istore_n 3, 1) := by decide +kernel
theorem d_tb_placeOfTide_4 : decode prog_1_method_39_code 4 = .ok (.iload_n 3, 1) := by decide +kernel
theorem d_tb_placeOfTide_5 : decode prog_1_method_39_code 5 = .ok (.sipush 144, 3) := by decide +kernel
theorem d_tb_placeOfTide_8 : decode prog_1_method_39_code 8 = .ok (.if_icmp .gt 27, 3) := by decide +kernel
theorem d_tb_placeOfTide_11 : decode prog_1_method_39_code 11 = .ok (.aload_n 0, 1) := by decide +kernel
theorem d_tb_placeOfTide_12 : decode prog_1_method_39_code 12 = .ok (.iload_n 3, 1) := by decide +kernel
theorem d_tb_placeOfTide_13 : decode prog_1_method_39_code 13 = .ok (.invokevirtual 132, 3) := by decide +kernel
theorem d_tb_placeOfTide_16 : decode prog_1_method_39_code 16 = .ok (.ifCond .eq 13, 3) := by decide +kernel
theorem d_tb_placeOfTide_19 : decode prog_1_method_39_code 19 = .ok (.iload_n 2, 1) := by decide +kernel
theorem d_tb_placeOfTide_20 : decode prog_1_method_39_code 20 = .ok (.iload_n 1, 1) := by decide +kernel
theorem d_tb_placeOfTide_21 : decode prog_1_method_39_code 21 = .ok (.if_icmp .ne 5, 3) := by decide +kernel
theorem d_tb_placeOfTide_24 : decode prog_1_method_39_code 24 = .ok (.iload_n 3, 1) := by decide +kernel
theorem d_tb_placeOfTide_25 : decode prog_1_method_39_code 25 = .ok (.ireturn, 1) := by decide +kernel
theorem d_tb_placeOfTide_26 : decode prog_1_method_39_code 26 = .ok (.iinc 2 1, 3) := by decide +kernel
theorem d_tb_placeOfTide_29 : decode prog_1_method_39_code 29 = .ok (.iinc 3 1, 3) := by decide +kernel
theorem d_tb_placeOfTide_32 : decode prog_1_method_39_code 32 = .ok (.goto (-28), 3) := by decide +kernel
theorem d_tb_placeOfTide_35 : decode prog_1_method_39_code 35 = .ok (.sipush (-10001), 3) := by decide +kernel
theorem d_tb_placeOfTide_38 : decode prog_1_method_39_code 38 = .ok (.ireturn, 1) := by decide +kernel
theorem d_tb_turnAt_0 : decode prog_1_method_40_code 0 = .ok (.iload_n 1, 1) := by decide +kernel
theorem d_tb_turnAt_1 : decode prog_1_method_40_code 1 = .ok (.iconst 1, 1) := by decide +kernel
theorem d_tb_turnAt_2 : decode prog_1_method_40_code 2 = .ok (.sipush 144, 3) := by decide +kernel
theorem d_tb_turnAt_5 : decode prog_1_method_40_code 5 = .ok (.invokestatic 33, 3) := by decide +kernel
theorem d_tb_turnAt_8 : decode prog_1_method_40_code 8 = .ok (.ifCond .eq 20, 3) := by decide +kernel
theorem d_tb_turnAt_11 : decode prog_1_method_40_code 11 = .ok (.aload_n 0, 1) := by decide +kernel
theorem d_tb_turnAt_12 : decode prog_1_method_40_code 12 = .ok (.getfield 26, 3) := by decide +kernel
theorem d_tb_turnAt_15 : decode prog_1_method_40_code 15 = .ok (.iload_n 1, 1) := by decide +kernel
theorem d_tb_turnAt_16 : decode prog_1_method_40_code 16 = .ok (.iaload, 1) := by decide +kernel
theorem d_tb_turnAt_17 : decode prog_1_method_40_code 17 = .ok (.aload_n 0, 1) := by decide +kernel
theorem d_tb_turnAt_18 : decode prog_1_method_40_code 18 = .ok (.getfield 26, 3) := by decide +kernel
theorem d_tb_turnAt_21 : decode prog_1_method_40_code 21 = .ok (.iload_n 1, 1) := by decide +kernel
theorem d_tb_turnAt_22 : decode prog_1_method_40_code 22 = .ok (.iconst 1, 1) := by decide +kernel
theorem d_tb_turnAt_23 : decode prog_1_method_40_code 23 = .ok (.isub, 1) := by decide +kernel
theorem d_tb_turnAt_24 : decode prog_1_method_40_code 24 = .ok (.iaload, 1) := by decide +kernel
theorem d_tb_turnAt_25 : decode prog_1_method_40_code 25 = .ok (.if_icmp .ne 5, 3) := by decide +kernel
theorem d_tb_turnAt_28 : decode prog_1_method_40_code 28 = .ok (.iconst 0, 1) := by decide +kernel
theorem d_tb_turnAt_29 : decode prog_1_method_40_code 29 = .ok (.ireturn, 1) := by decide +kernel
theorem d_tb_turnAt_30 : decode prog_1_method_40_code 30 = .ok (.iload_n 1, 1) := by decide +kernel
theorem d_tb_turnAt_31 : decode prog_1_method_40_code 31 = .ok (.iconst 1, 1) := by decide +kernel
theorem d_tb_turnAt_32 : decode prog_1_method_40_code 32 = .ok (.iadd, 1) := by decide +kernel
theorem d_tb_turnAt_33 : decode prog_1_method_40_code 33 = .ok (.istore_n 2, 1) := by decide +kernel
theorem d_tb_turnAt_34 : decode prog_1_method_40_code 34 = .ok (.iload_n 2, 1) := by decide +kernel
theorem d_tb_turnAt_35 : decode prog_1_method_40_code 35 = .ok (.iload_n 1, 1) := by decide +kernel
theorem d_tb_turnAt_36 : decode prog_1_method_40_code 36 = .ok (.sipush 144, 3) := by decide +kernel
theorem d_tb_turnAt_39 : decode prog_1_method_40_code 39 = .ok (.iadd, 1) := by decide +kernel
theorem d_tb_turnAt_40 : decode prog_1_method_40_code 40 = .ok (.if_icmp .ge 24, 3) := by decide +kernel
theorem d_tb_turnAt_43 : decode prog_1_method_40_code 43 = .ok (.aload_n 0, 1) := by decide +kernel
theorem d_tb_turnAt_44 : decode prog_1_method_40_code 44 = .ok (.getfield 26, 3) := by decide +kernel
theorem d_tb_turnAt_47 : decode prog_1_method_40_code 47 = .ok (.iload_n 2, 1) := by decide +kernel
theorem d_tb_turnAt_48 : decode prog_1_method_40_code 48 = .ok (.iaload, 1) := by decide +kernel
theorem d_tb_turnAt_49 : decode prog_1_method_40_code 49 = .ok (.aload_n 0, 1) := by decide +kernel
theorem d_tb_turnAt_50 : decode prog_1_method_40_code 50 = .ok (.getfield 26, 3) := by decide +kernel
theorem d_tb_turnAt_53 : decode prog_1_method_40_code 53 = .ok (.iload_n 1, 1) := by decide +kernel
theorem d_tb_turnAt_54 : decode prog_1_method_40_code 54 = .ok (.iaload, 1) := by decide +kernel
theorem d_tb_turnAt_55 : decode prog_1_method_40_code 55 = .ok (.if_icmp .ne 9, 3) := by decide +kernel
theorem d_tb_turnAt_58 : decode prog_1_method_40_code 58 = .ok (.iinc 2 1, 3) := by decide +kernel
theorem d_tb_turnAt_61 : decode prog_1_method_40_code 61 = .ok (.goto (-27), 3) := by decide +kernel
theorem d_tb_turnAt_64 : decode prog_1_method_40_code 64 = .ok (.aload_n 0, 1) := by decide +kernel
theorem d_tb_turnAt_65 : decode prog_1_method_40_code 65 = .ok (.getfield 26, 3) := by decide +kernel
theorem d_tb_turnAt_68 : decode prog_1_method_40_code 68 = .ok (.iload_n 1, 1) := by decide +kernel
theorem d_tb_turnAt_69 : decode prog_1_method_40_code 69 = .ok (.iaload, 1) := by decide +kernel
theorem d_tb_turnAt_70 : decode prog_1_method_40_code 70 = .ok (.aload_n 0, 1) := by decide +kernel
theorem d_tb_turnAt_71 : decode prog_1_method_40_code 71 = .ok (.getfield 26, 3) := by decide +kernel
theorem d_tb_turnAt_74 : decode prog_1_method_40_code 74 = .ok (.iload_n 1, 1) := by decide +kernel
theorem d_tb_turnAt_75 : decode prog_1_method_40_code 75 = .ok (.iconst 1, 1) := by decide +kernel
theorem d_tb_turnAt_76 : decode prog_1_method_40_code 76 = .ok (.isub, 1) := by decide +kernel
theorem d_tb_turnAt_77 : decode prog_1_method_40_code 77 = .ok (.iaload, 1) := by decide +kernel
theorem d_tb_turnAt_78 : decode prog_1_method_40_code 78 = .ok (.invokestatic 215, 3) := by decide +kernel
theorem d_tb_turnAt_81 : decode prog_1_method_40_code 81 = .ok (.istore_n 3, 1) := by decide +kernel
theorem d_tb_turnAt_82 : decode prog_1_method_40_code 82 = .ok (.aload_n 0, 1) := by decide +kernel
theorem d_tb_turnAt_83 : decode prog_1_method_40_code 83 = .ok (.getfield 26, 3) := by decide +kernel
theorem d_tb_turnAt_86 : decode prog_1_method_40_code 86 = .ok (.iload_n 2, 1) := by decide +kernel
theorem d_tb_turnAt_87 : decode prog_1_method_40_code 87 = .ok (.iaload, 1) := by decide +kernel
theorem d_tb_turnAt_88 : decode prog_1_method_40_code 88 = .ok (.aload_n 0, 1) := by decide +kernel
theorem d_tb_turnAt_89 : decode prog_1_method_40_code 89 = .ok (.getfield 26, 3) := by decide +kernel
theorem d_tb_turnAt_92 : decode prog_1_method_40_code 92 = .ok (.iload_n 1, 1) := by decide +kernel
theorem d_tb_turnAt_93 : decode prog_1_method_40_code 93 = .ok (.iaload, 1) := by decide +kernel
theorem d_tb_turnAt_94 : decode prog_1_method_40_code 94 = .ok (.invokestatic 215, 3) := by decide +kernel
theorem d_tb_turnAt_97 : decode prog_1_method_40_code 97 = .ok (.istore 4, 2) := by decide +kernel
theorem d_tb_turnAt_99 : decode prog_1_method_40_code 99 = .ok (.iload_n 3, 1) := by decide +kernel
theorem d_tb_turnAt_100 : decode prog_1_method_40_code 100 = .ok (.iload 4, 2) := by decide +kernel
theorem d_tb_turnAt_102 : decode prog_1_method_40_code 102 = .ok (.ineg, 1) := by decide +kernel
theorem d_tb_turnAt_103 : decode prog_1_method_40_code 103 = .ok (.if_icmp .ne 7, 3) := by decide +kernel
theorem d_tb_turnAt_106 : decode prog_1_method_40_code 106 = .ok (.iload_n 3, 1) := by decide +kernel
theorem d_tb_turnAt_107 : decode prog_1_method_40_code 107 = .ok (.goto 4, 3) := by decide +kernel
theorem d_tb_turnAt_110 : decode prog_1_method_40_code 110 = .ok (.iconst 0, 1) := by decide +kernel
theorem d_tb_turnAt_111 : decode prog_1_method_40_code 111 = .ok (.ireturn, 1) := by decide +kernel
theorem d_tb_firstOfGate_0 : decode prog_1_method_41_code 0 = .ok (.iconst 0, 1) := by decide +kernel
theorem d_tb_firstOfGate_1 : decode prog_1_method_41_code 1 = .ok (.istore_n 3, 1) := by decide +kernel
theorem d_tb_firstOfGate_2 : decode prog_1_method_41_code 2 = .ok (.iconst 0, 1) := by decide +kernel
theorem d_tb_firstOfGate_3 : decode prog_1_method_41_code 3 = .ok (.istore 4, 2) := by decide +kernel
theorem d_tb_firstOfGate_5 : decode prog_1_method_41_code 5 = .ok (.iload 4, 2) := by decide +kernel
theorem d_tb_firstOfGate_7 : decode prog_1_method_41_code 7 = .ok (.sipush 144, 3) := by decide +kernel
theorem d_tb_firstOfGate_10 : decode prog_1_method_41_code 10 = .ok (.if_icmp .ge 49, 3) := by decide +kernel
theorem d_tb_firstOfGate_13 : decode prog_1_method_41_code 13 = .ok (.aload_n 0, 1) := by decide +kernel
theorem d_tb_firstOfGate_14 : decode prog_1_method_41_code 14 = .ok (.getfield 26, 3) := by decide +kernel
theorem d_tb_firstOfGate_17 : decode prog_1_method_41_code 17 = .ok (.iload 4, 2) := by decide +kernel
theorem d_tb_firstOfGate_19 : decode prog_1_method_41_code 19 = .ok (.iaload, 1) := by decide +kernel
theorem d_tb_firstOfGate_20 : decode prog_1_method_41_code 20 = .ok (.iload_n 1, 1) := by decide +kernel
theorem d_tb_firstOfGate_21 : decode prog_1_method_41_code 21 = .ok (.if_icmp .lt 32, 3) := by decide +kernel
theorem d_tb_firstOfGate_24 : decode prog_1_method_41_code 24 = .ok (.iload 4, 2) := by decide +kernel
theorem d_tb_firstOfGate_26 : decode prog_1_method_41_code 26 = .ok (.ifCond .eq 16, 3) := by decide +kernel
theorem d_tb_firstOfGate_29 : decode prog_1_method_41_code 29 = .ok (.aload_n 0, 1) := by decide +kernel
theorem d_tb_firstOfGate_30 : decode prog_1_method_41_code 30 = .ok (.getfield 26, 3) := by decide +kernel
theorem d_tb_firstOfGate_33 : decode prog_1_method_41_code 33 = .ok (.iload 4, 2) := by decide +kernel
theorem d_tb_firstOfGate_35 : decode prog_1_method_41_code 35 = .ok (.iconst 1, 1) := by decide +kernel
theorem d_tb_firstOfGate_36 : decode prog_1_method_41_code 36 = .ok (.isub, 1) := by decide +kernel
theorem d_tb_firstOfGate_37 : decode prog_1_method_41_code 37 = .ok (.iaload, 1) := by decide +kernel
theorem d_tb_firstOfGate_38 : decode prog_1_method_41_code 38 = .ok (.iload_n 1, 1) := by decide +kernel
theorem d_tb_firstOfGate_39 : decode prog_1_method_41_code 39 = .ok (.if_icmp .ge 14, 3) := by decide +kernel
theorem d_tb_firstOfGate_42 : decode prog_1_method_41_code 42 = .ok (.iload_n 3, 1) := by decide +kernel
theorem d_tb_firstOfGate_43 : decode prog_1_method_41_code 43 = .ok (.iload_n 2, 1) := by decide +kernel
theorem d_tb_firstOfGate_44 : decode prog_1_method_41_code 44 = .ok (.if_icmp .ne 6, 3) := by decide +kernel
theorem d_tb_firstOfGate_47 : decode prog_1_method_41_code 47 = .ok (.iload 4, 2) := by decide +kernel
theorem d_tb_firstOfGate_49 : decode prog_1_method_41_code 49 = .ok (.ireturn, 1) := by decide +kernel
theorem d_tb_firstOfGate_50 : decode prog_1_method_41_code 50 = .ok (.iinc 3 1, 3) := by decide +kernel
theorem d_tb_firstOfGate_53 : decode prog_1_method_41_code 53 = .ok (.iinc 4 1, 3) := by decide +kernel
theorem d_tb_firstOfGate_56 : decode prog_1_method_41_code 56 = .ok (.goto (-51), 3) := by decide +kernel
theorem d_tb_firstOfGate_59 : decode prog_1_method_41_code 59 = .ok (.sipush (-10001), 3) := by decide +kernel
theorem d_tb_firstOfGate_62 : decode prog_1_method_41_code 62 = .ok (.ireturn, 1) := by decide +kernel
theorem d_tb_lastOfGate_0 : decode prog_1_method_42_code 0 = .ok (.iload_n 2, 1) := by decide +kernel
theorem d_tb_lastOfGate_1 : decode prog_1_method_42_code 1 = .ok (.istore_n 3, 1) := by decide +kernel
theorem d_tb_lastOfGate_2 : decode prog_1_method_42_code 2 = .ok (.iload_n 3, 1) := by decide +kernel
theorem d_tb_lastOfGate_3 : decode prog_1_method_42_code 3 = .ok (.iconst 1, 1) := by decide +kernel
theorem d_tb_lastOfGate_4 : decode prog_1_method_42_code 4 = .ok (.iadd, 1) := by decide +kernel
theorem d_tb_lastOfGate_5 : decode prog_1_method_42_code 5 = .ok (.sipush 144, 3) := by decide +kernel
theorem d_tb_lastOfGate_8 : decode prog_1_method_42_code 8 = .ok (.if_icmp .ge 21, 3) := by decide +kernel
theorem d_tb_lastOfGate_11 : decode prog_1_method_42_code 11 = .ok (.aload_n 0, 1) := by decide +kernel
theorem d_tb_lastOfGate_12 : decode prog_1_method_42_code 12 = .ok (.getfield 26, 3) := by decide +kernel
theorem d_tb_lastOfGate_15 : decode prog_1_method_42_code 15 = .ok (.iload_n 3, 1) := by decide +kernel
theorem d_tb_lastOfGate_16 : decode prog_1_method_42_code 16 = .ok (.iconst 1, 1) := by decide +kernel
theorem d_tb_lastOfGate_17 : decode prog_1_method_42_code 17 = .ok (.iadd, 1) := by decide +kernel
theorem d_tb_lastOfGate_18 : decode prog_1_method_42_code 18 = .ok (.iaload, 1) := by decide +kernel
theorem d_tb_lastOfGate_19 : decode prog_1_method_42_code 19 = .ok (.iload_n 1, 1) := by decide +kernel
theorem d_tb_lastOfGate_20 : decode prog_1_method_42_code 20 = .ok (.if_icmp .lt 9, 3) := by decide +kernel
theorem d_tb_lastOfGate_23 : decode prog_1_method_42_code 23 = .ok (.iinc 3 1, 3) := by decide +kernel
theorem d_tb_lastOfGate_26 : decode prog_1_method_42_code 26 = .ok (.goto (-24), 3) := by decide +kernel
theorem d_tb_lastOfGate_29 : decode prog_1_method_42_code 29 = .ok (.iload_n 3, 1) := by decide +kernel
theorem d_tb_lastOfGate_30 : decode prog_1_method_42_code 30 = .ok (.ireturn, 1) := by decide +kernel
theorem d_tb_tripFrom_0 : decode prog_1_method_43_code 0 = .ok (.iconst 0, 1) := by decide +kernel
theorem d_tb_tripFrom_1 : decode prog_1_method_43_code 1 = .ok (.istore_n 3, 1) := by decide +kernel
theorem d_tb_tripFrom_2 : decode prog_1_method_43_code 2 = .ok (.iconst 1, 1) := by decide +kernel
theorem d_tb_tripFrom_3 : decode prog_1_method_43_code 3 = .ok (.istore 4, 2) := by decide +kernel
theorem d_tb_tripFrom_5 : decode prog_1_method_43_code 5 = .ok (.iload 4, 2) := by decide +kernel
theorem d_tb_tripFrom_7 : decode prog_1_method_43_code 7 = .ok (.sipush 200, 3) := by decide +kernel
theorem d_tb_tripFrom_10 : decode prog_1_method_43_code 10 = .ok (.if_icmp .gt 56, 3) := by decide +kernel
theorem d_tb_tripFrom_13 : decode prog_1_method_43_code 13 = .ok (.iload_n 1, 1) := by decide +kernel
theorem d_tb_tripFrom_14 : decode prog_1_method_43_code 14 = .ok (.iload 4, 2) := by decide +kernel
theorem d_tb_tripFrom_16 : decode prog_1_method_43_code 16 = .ok (.iadd, 1) := by decide +kernel
theorem d_tb_tripFrom_17 : decode prog_1_method_43_code 17 = .ok (.iconst 1, 1) := by decide +kernel
theorem d_tb_tripFrom_18 : decode prog_1_method_43_code 18 = .ok (.isub, 1) := by decide +kernel
theorem d_tb_tripFrom_19 : decode prog_1_method_43_code 19 = .ok (.istore 5, 2) := by decide +kernel
theorem d_tb_tripFrom_21 : decode prog_1_method_43_code 21 = .ok (.iload_n 3, 1) := by decide +kernel
theorem d_tb_tripFrom_22 : decode prog_1_method_43_code 22 = .ok (.iconst 0, 1) := by decide +kernel
theorem d_tb_tripFrom_23 : decode prog_1_method_43_code 23 = .ok (.iload_n 2, 1) := by decide +kernel
theorem d_tb_tripFrom_24 : decode prog_1_method_43_code 24 = .ok (.aload_n 0, 1) := by decide +kernel
theorem d_tb_tripFrom_25 : decode prog_1_method_43_code 25 = .ok (.getfield 26, 3) := by decide +kernel
theorem d_tb_tripFrom_28 : decode prog_1_method_43_code 28 = .ok (.iload 5, 2) := by decide +kernel
theorem d_tb_tripFrom_30 : decode prog_1_method_43_code 30 = .ok (.iaload, 1) := by decide +kernel
theorem d_tb_tripFrom_31 : decode prog_1_method_43_code 31 = .ok (.aload_n 0, 1) := by decide +kernel
theorem d_tb_tripFrom_32 : decode prog_1_method_43_code 32 = .ok (.getfield 30, 3) := by decide +kernel
theorem d_tb_tripFrom_35 : decode prog_1_method_43_code 35 = .ok (.iload 5, 2) := by decide +kernel
theorem d_tb_tripFrom_37 : decode prog_1_method_43_code 37 = .ok (.iaload, 1) := by decide +kernel
theorem d_tb_tripFrom_38 : decode prog_1_method_43_code 38 = .ok (.isub, 1) := by decide +kernel
theorem d_tb_tripFrom_39 : decode prog_1_method_43_code 39 = .ok (.bipush 20, 2) := by decide +kernel
theorem d_tb_tripFrom_41 : decode prog_1_method_43_code 41 = .ok (.invokestatic 218, 3) := by decide +kernel
theorem d_tb_tripFrom_44 : decode prog_1_method_43_code 44 = .ok (.iadd, 1) := by decide +kernel
theorem d_tb_tripFrom_45 : decode prog_1_method_43_code 45 = .ok (.invokestatic 208, 3) := by decide +kernel
theorem d_tb_tripFrom_48 : decode prog_1_method_43_code 48 = .ok (.iadd, 1) := by decide +kernel
theorem d_tb_tripFrom_49 : decode prog_1_method_43_code 49 = .ok (.istore_n 3, 1) := by decide +kernel
theorem d_tb_tripFrom_50 : decode prog_1_method_43_code 50 = .ok (.iload_n 3, 1) := by decide +kernel
theorem d_tb_tripFrom_51 : decode prog_1_method_43_code 51 = .ok (.sipush 300, 3) := by decide +kernel
theorem d_tb_tripFrom_54 : decode prog_1_method_43_code 54 = .ok (.if_icmp .lt 6, 3) := by decide +kernel
theorem d_tb_tripFrom_57 : decode prog_1_method_43_code 57 = .ok (.iload 4, 2) := by decide +kernel
theorem d_tb_tripFrom_59 : decode prog_1_method_43_code 59 = .ok (.ireturn, 1) := by decide +kernel
theorem d_tb_tripFrom_60 : decode prog_1_method_43_code 60 = .ok (.iinc 4 1, 3) := by decide +kernel
theorem d_tb_tripFrom_63 : decode prog_1_method_43_code 63 = .ok (.goto (-58), 3) := by decide +kernel
theorem d_tb_tripFrom_66 : decode prog_1_method_43_code 66 = .ok (.sipush (-10001), 3) := by decide +kernel
theorem d_tb_tripFrom_69 : decode prog_1_method_43_code 69 = .ok (.ireturn, 1) := by decide +kernel
theorem d_mo_init_0 : decode prog_7_method_1_code 0 = .ok (.aload_n 0, 1) := by decide +kernel
theorem d_mo_init_1 : decode prog_7_method_1_code 1 = .ok (.invokespecial 1, 3) := by decide +kernel
theorem d_mo_init_4 : decode prog_7_method_1_code 4 = .ok (.aload_n 0, 1) := by decide +kernel
theorem d_mo_init_5 : decode prog_7_method_1_code 5 = .ok (.iconst 4, 1) := by decide +kernel
theorem d_mo_init_6 : decode prog_7_method_1_code 6 = .ok (.newarray .int, 2) := by decide +kernel
theorem d_mo_init_8 : decode prog_7_method_1_code 8 = .ok (.putfield 7, 3) := by decide +kernel
theorem d_mo_init_11 : decode prog_7_method_1_code 11 = .ok (.aload_n 0, 1) := by decide +kernel
theorem d_mo_init_12 : decode prog_7_method_1_code 12 = .ok (.iconst 4, 1) := by decide +kernel
theorem d_mo_init_13 : decode prog_7_method_1_code 13 = .ok (.newarray .int, 2) := by decide +kernel
theorem d_mo_init_15 : decode prog_7_method_1_code 15 = .ok (.putfield 13, 3) := by decide +kernel
theorem d_mo_init_18 : decode prog_7_method_1_code 18 = .ok (.aload_n 0, 1) := by decide +kernel
theorem d_mo_init_19 : decode prog_7_method_1_code 19 = .ok (.iconst 4, 1) := by decide +kernel
theorem d_mo_init_20 : decode prog_7_method_1_code 20 = .ok (.newarray .int, 2) := by decide +kernel
theorem d_mo_init_22 : decode prog_7_method_1_code 22 = .ok (.putfield 16, 3) := by decide +kernel
theorem d_mo_init_25 : decode prog_7_method_1_code 25 = .ok (.aload_n 0, 1) := by decide +kernel
theorem d_mo_init_26 : decode prog_7_method_1_code 26 = .ok (.iconst 4, 1) := by decide +kernel
theorem d_mo_init_27 : decode prog_7_method_1_code 27 = .ok (.newarray .int, 2) := by decide +kernel
theorem d_mo_init_29 : decode prog_7_method_1_code 29 = .ok (.putfield 19, 3) := by decide +kernel
theorem d_mo_init_32 : decode prog_7_method_1_code 32 = .ok (.aload_n 0, 1) := by decide +kernel
theorem d_mo_init_33 : decode prog_7_method_1_code 33 = .ok (.iconst 4, 1) := by decide +kernel
theorem d_mo_init_34 : decode prog_7_method_1_code 34 = .ok (.newarray .int, 2) := by decide +kernel
theorem d_mo_init_36 : decode prog_7_method_1_code 36 = .ok (.putfield 22, 3) := by decide +kernel
theorem d_mo_init_39 : decode prog_7_method_1_code 39 = .ok (.aload_n 0, 1) := by decide +kernel
theorem d_mo_init_40 : decode prog_7_method_1_code 40 = .ok (.bipush 36, 2) := by decide +kernel
theorem d_mo_init_42 : decode prog_7_method_1_code 42 = .ok (.newarray .int, 2) := by decide +kernel
theorem d_mo_init_44 : decode prog_7_method_1_code 44 = .ok (.putfield 25, 3) := by decide +kernel
theorem d_mo_init_47 : decode prog_7_method_1_code 47 = .ok (.aload_n 0, 1) := by decide +kernel
theorem d_mo_init_48 : decode prog_7_method_1_code 48 = .ok (.bipush 65, 2) := by decide +kernel
theorem d_mo_init_50 : decode prog_7_method_1_code 50 = .ok (.newarray .int, 2) := by decide +kernel
theorem d_mo_init_52 : decode prog_7_method_1_code 52 = .ok (.putfield 28, 3) := by decide +kernel
theorem d_mo_init_55 : decode prog_7_method_1_code 55 = .ok (.aload_n 0, 1) := by decide +kernel
theorem d_mo_init_56 : decode prog_7_method_1_code 56 = .ok (.bipush 6, 2) := by decide +kernel
theorem d_mo_init_58 : decode prog_7_method_1_code 58 = .ok (.newarray .int, 2) := by decide +kernel
theorem d_mo_init_60 : decode prog_7_method_1_code 60 = .ok (.putfield 31, 3) := by decide +kernel
theorem d_mo_init_63 : decode prog_7_method_1_code 63 = .ok (.aload_n 0, 1) := by decide +kernel
theorem d_mo_init_64 : decode prog_7_method_1_code 64 = .ok (.bipush 6, 2) := by decide +kernel
theorem d_mo_init_66 : decode prog_7_method_1_code 66 = .ok (.newarray .int, 2) := by decide +kernel
theorem d_mo_init_68 : decode prog_7_method_1_code 68 = .ok (.putfield 34, 3) := by decide +kernel
theorem d_mo_init_71 : decode prog_7_method_1_code 71 = .ok (.aload_n 0, 1) := by decide +kernel
theorem d_mo_init_72 : decode prog_7_method_1_code 72 = .ok (.bipush 6, 2) := by decide +kernel
theorem d_mo_init_74 : decode prog_7_method_1_code 74 = .ok (.newarray .int, 2) := by decide +kernel
theorem d_mo_init_76 : decode prog_7_method_1_code 76 = .ok (.putfield 37, 3) := by decide +kernel
theorem d_mo_init_79 : decode prog_7_method_1_code 79 = .ok (.aload_n 0, 1) := by decide +kernel
theorem d_mo_init_80 : decode prog_7_method_1_code 80 = .ok (.bipush 96, 2) := by decide +kernel
theorem d_mo_init_82 : decode prog_7_method_1_code 82 = .ok (.newarray .byte, 2) := by decide +kernel
theorem d_mo_init_84 : decode prog_7_method_1_code 84 = .ok (.putfield 40, 3) := by decide +kernel
theorem d_mo_init_87 : decode prog_7_method_1_code 87 = .ok (.aload_n 0, 1) := by decide +kernel
theorem d_mo_init_88 : decode prog_7_method_1_code 88 = .ok (.iconst 4, 1) := by decide +kernel
theorem d_mo_init_89 : decode prog_7_method_1_code 89 = .ok (.newarray .int, 2) := by decide +kernel
theorem d_mo_init_91 : decode prog_7_method_1_code 91 = .ok (.putfield 44, 3) := by decide +kernel
theorem d_mo_init_94 : decode prog_7_method_1_code 94 = .ok (.aload_n 0, 1) := by decide +kernel
theorem d_mo_init_95 : decode prog_7_method_1_code 95 = .ok (.iconst 4, 1) := by decide +kernel
theorem d_mo_init_96 : decode prog_7_method_1_code 96 = .ok (.newarray .int, 2) := by decide +kernel
theorem d_mo_init_98 : decode prog_7_method_1_code 98 = .ok (.putfield 47, 3) := by decide +kernel
theorem d_mo_init_101 : decode prog_7_method_1_code 101 = .ok (.aload_n 0, 1) := by decide +kernel
end
section
theorem d_mo_init_102 : decode prog_7_method_1_code 102 = .ok (.iconst 4, 1) := by decide +kernel
theorem d_mo_init_103 : decode prog_7_method_1_code 103 = .ok (.newarray .int, 2) := by decide +kernel
theorem d_mo_init_105 : decode prog_7_method_1_code 105 = .ok (.putfield 50, 3) := by decide +kernel
theorem d_mo_init_108 : decode prog_7_method_1_code 108 = .ok (.aload_n 0, 1) := by decide +kernel
theorem d_mo_init_109 : decode prog_7_method_1_code 109 = .ok (.iconst 4, 1) := by decide +kernel
theorem d_mo_init_110 : decode prog_7_method_1_code 110 = .ok (.newarray .int, 2) := by decide +kernel
theorem d_mo_init_112 : decode prog_7_method_1_code 112 = .ok (.putfield 53, 3) := by decide +kernel
theorem d_mo_init_115 : decode prog_7_method_1_code 115 = .ok (.aload_n 0, 1) := by decide +kernel
theorem d_mo_init_116 : decode prog_7_method_1_code 116 = .ok (.iconst 4, 1) := by decide +kernel
theorem d_mo_init_117 : decode prog_7_method_1_code 117 = .ok (.newarray .int, 2) := by decide +kernel
theorem d_mo_init_119 : decode prog_7_method_1_code 119 = .ok (.putfield 56, 3) := by decide +kernel
theorem d_mo_init_122 : decode prog_7_method_1_code 122 = .ok (.aload_n 0, 1) := by decide +kernel
theorem d_mo_init_123 : decode prog_7_method_1_code 123 = .ok (.bipush 36, 2) := by decide +kernel
theorem d_mo_init_125 : decode prog_7_method_1_code 125 = .ok (.newarray .int, 2) := by decide +kernel
theorem d_mo_init_127 : decode prog_7_method_1_code 127 = .ok (.putfield 59, 3) := by decide +kernel
theorem d_mo_init_130 : decode prog_7_method_1_code 130 = .ok (.aload_n 0, 1) := by decide +kernel
theorem d_mo_init_131 : decode prog_7_method_1_code 131 = .ok (.iconst 4, 1) := by decide +kernel
theorem d_mo_init_132 : decode prog_7_method_1_code 132 = .ok (.newarray .int, 2) := by decide +kernel
theorem d_mo_init_134 : decode prog_7_method_1_code 134 = .ok (.putfield 62, 3) := by decide +kernel
theorem d_mo_init_137 : decode prog_7_method_1_code 137 = .ok (.aload_n 0, 1) := by decide +kernel
theorem d_mo_init_138 : decode prog_7_method_1_code 138 = .ok (.iconst 4, 1) := by decide +kernel
theorem d_mo_init_139 : decode prog_7_method_1_code 139 = .ok (.newarray .int, 2) := by decide +kernel
theorem d_mo_init_141 : decode prog_7_method_1_code 141 = .ok (.putfield 65, 3) := by decide +kernel
theorem d_mo_init_144 : decode prog_7_method_1_code 144 = .ok (.aload_n 0, 1) := by decide +kernel
theorem d_mo_init_145 : decode prog_7_method_1_code 145 = .ok (.iconst 4, 1) := by decide +kernel
theorem d_mo_init_146 : decode prog_7_method_1_code 146 = .ok (.newarray .int, 2) := by decide +kernel
theorem d_mo_init_148 : decode prog_7_method_1_code 148 = .ok (.putfield 68, 3) := by decide +kernel
theorem d_mo_init_151 : decode prog_7_method_1_code 151 = .ok (.aload_n 0, 1) := by decide +kernel
theorem d_mo_init_152 : decode prog_7_method_1_code 152 = .ok (.iconst 4, 1) := by decide +kernel
theorem d_mo_init_153 : decode prog_7_method_1_code 153 = .ok (.newarray .int, 2) := by decide +kernel
theorem d_mo_init_155 : decode prog_7_method_1_code 155 = .ok (.putfield 71, 3) := by decide +kernel
theorem d_mo_init_158 : decode prog_7_method_1_code 158 = .ok (.aload_n 0, 1) := by decide +kernel
theorem d_mo_init_159 : decode prog_7_method_1_code 159 = .ok (.iconst 4, 1) := by decide +kernel
theorem d_mo_init_160 : decode prog_7_method_1_code 160 = .ok (.newarray .int, 2) := by decide +kernel
theorem d_mo_init_162 : decode prog_7_method_1_code 162 = .ok (.putfield 74, 3) := by decide +kernel
theorem d_mo_init_165 : decode prog_7_method_1_code 165 = .ok (.aload_n 0, 1) := by decide +kernel
theorem d_mo_init_166 : decode prog_7_method_1_code 166 = .ok (.bipush 36, 2) := by decide +kernel
theorem d_mo_init_168 : decode prog_7_method_1_code 168 = .ok (.newarray .int, 2) := by decide +kernel
theorem d_mo_init_170 : decode prog_7_method_1_code 170 = .ok (.putfield 77, 3) := by decide +kernel
theorem d_mo_init_173 : decode prog_7_method_1_code 173 = .ok (.aload_n 0, 1) := by decide +kernel
theorem d_mo_init_174 : decode prog_7_method_1_code 174 = .ok (.bipush 6, 2) := by decide +kernel
theorem d_mo_init_176 : decode prog_7_method_1_code 176 = .ok (.newarray .int, 2) := by decide +kernel
theorem d_mo_init_178 : decode prog_7_method_1_code 178 = .ok (.putfield 80, 3) := by decide +kernel
theorem d_mo_init_181 : decode prog_7_method_1_code 181 = .ok (.aload_n 0, 1) := by decide +kernel
theorem d_mo_init_182 : decode prog_7_method_1_code 182 = .ok (.bipush 6, 2) := by decide +kernel
theorem d_mo_init_184 : decode prog_7_method_1_code 184 = .ok (.newarray .int, 2) := by decide +kernel
theorem d_mo_init_186 : decode prog_7_method_1_code 186 = .ok (.putfield 83, 3) := by decide +kernel
theorem d_mo_init_189 : decode prog_7_method_1_code 189 = .ok (.aload_n 0, 1) := by decide +kernel
theorem d_mo_init_190 : decode prog_7_method_1_code 190 = .ok (.bipush 6, 2) := by decide +kernel
theorem d_mo_init_192 : decode prog_7_method_1_code 192 = .ok (.newarray .int, 2) := by decide +kernel
theorem d_mo_init_194 : decode prog_7_method_1_code 194 = .ok (.putfield 86, 3) := by decide +kernel
theorem d_mo_init_197 : decode prog_7_method_1_code 197 = .ok (.iconst 0, 1) := by decide +kernel
theorem d_mo_init_198 : decode prog_7_method_1_code 198 = .ok (.istore_n 1, 1) := by decide +kernel
theorem d_mo_init_199 : decode prog_7_method_1_code 199 = .ok (.iload_n 1, 1) := by decide +kernel
theorem d_mo_init_200 : decode prog_7_method_1_code 200 = .ok (.bipush 64, 2) := by decide +kernel
theorem d_mo_init_202 : decode prog_7_method_1_code 202 = .ok (.if_icmp .gt 51, 3) := by decide +kernel
theorem d_mo_init_205 : decode prog_7_method_1_code 205 = .ok (.iload_n 1, 1) := by decide +kernel
theorem d_mo_init_206 : decode prog_7_method_1_code 206 = .ok (.bipush 32, 2) := by decide +kernel
theorem d_mo_init_208 : decode prog_7_method_1_code 208 = .ok (.if_icmp .le 10, 3) := by decide +kernel
theorem d_mo_init_211 : decode prog_7_method_1_code 211 = .ok (.bipush 64, 2) := by decide +kernel
theorem d_mo_init_213 : decode prog_7_method_1_code 213 = .ok (.iload_n 1, 1) := by decide +kernel
theorem d_mo_init_214 : decode prog_7_method_1_code 214 = .ok (.isub, 1) := by decide +kernel
theorem d_mo_init_215 : decode prog_7_method_1_code 215 = .ok (.goto 4, 3) := by decide +kernel
theorem d_mo_init_218 : decode prog_7_method_1_code 218 = .ok (.iload_n 1, 1) := by decide +kernel
theorem d_mo_init_219 : decode prog_7_method_1_code 219 = .ok (.istore_n 2, 1) := by decide +kernel
theorem d_mo_init_220 : decode prog_7_method_1_code 220 = .ok (.aload_n 0, 1) := by decide +kernel
theorem d_mo_init_221 : decode prog_7_method_1_code 221 = .ok (.getfield 28, 3) := by decide +kernel
theorem d_mo_init_224 : decode prog_7_method_1_code 224 = .ok (.iload_n 1, 1) := by decide +kernel
theorem d_mo_init_225 : decode prog_7_method_1_code 225 = .ok (.iload_n 2, 1) := by decide +kernel
theorem d_mo_init_226 : decode prog_7_method_1_code 226 = .ok (.bipush 16, 2) := by decide +kernel
theorem d_mo_init_228 : decode prog_7_method_1_code 228 = .ok (.if_icmp .le 14, 3) := by decide +kernel
theorem d_mo_init_231 : decode prog_7_method_1_code 231 = .ok (.bipush 32, 2) := by decide +kernel
theorem d_mo_init_233 : decode prog_7_method_1_code 233 = .ok (.iload_n 2, 1) := by decide +kernel
theorem d_mo_init_234 : decode prog_7_method_1_code 234 = .ok (.isub, 1) := by decide +kernel
theorem d_mo_init_235 : decode prog_7_method_1_code 235 = .ok (.invokestatic 89, 3) := by decide +kernel
theorem d_mo_init_238 : decode prog_7_method_1_code 238 = .ok (.ineg, 1) := by decide +kernel
theorem d_mo_init_239 : decode prog_7_method_1_code 239 = .ok (.goto 7, 3) := by decide +kernel
theorem d_mo_init_242 : decode prog_7_method_1_code 242 = .ok (.iload_n 2, 1) := by decide +kernel
theorem d_mo_init_243 : decode prog_7_method_1_code 243 = .ok (.invokestatic 89, 3) := by decide +kernel
theorem d_mo_init_246 : decode prog_7_method_1_code 246 = .ok (.iastore, 1) := by decide +kernel
theorem d_mo_init_247 : decode prog_7_method_1_code 247 = .ok (.iinc 1 1, 3) := by decide +kernel
theorem d_mo_init_250 : decode prog_7_method_1_code 250 = .ok (.goto (-51), 3) := by decide +kernel
theorem d_mo_init_253 : decode prog_7_method_1_code 253 = .ok (.return_, 1) := by decide +kernel
theorem d_mo_quarter_0 : decode prog_7_method_3_code 0 = .ok (.iload_n 0, 1) := by decide +kernel
theorem d_mo_quarter_1 : decode prog_7_method_3_code 1 = .ok (.tableswitch 142 0 15 #[79, 83, 87, 91, 95, 99, 103, 107, 111, 115, 119, 123, 127, 131, 135, 139], 79) := by decide +kernel
theorem d_mo_quarter_80 : decode prog_7_method_3_code 80 = .ok (.sipush 1000, 3) := by decide +kernel
theorem d_mo_quarter_83 : decode prog_7_method_3_code 83 = .ok (.ireturn, 1) := by decide +kernel
theorem d_mo_quarter_84 : decode prog_7_method_3_code 84 = .ok (.sipush 995, 3) := by decide +kernel
theorem d_mo_quarter_87 : decode prog_7_method_3_code 87 = .ok (.ireturn, 1) := by decide +kernel
theorem d_mo_quarter_88 : decode prog_7_method_3_code 88 = .ok (.sipush 981, 3) := by decide +kernel
theorem d_mo_quarter_91 : decode prog_7_method_3_code 91 = .ok (.ireturn, 1) := by decide +kernel
theorem d_mo_quarter_92 : decode prog_7_method_3_code 92 = .ok (.sipush 957, 3) := by decide +kernel
theorem d_mo_quarter_95 : decode prog_7_method_3_code 95 = .ok (.ireturn, 1) := by decide +kernel
theorem d_mo_quarter_96 : decode prog_7_method_3_code 96 = .ok (.sipush 924, 3) := by decide +kernel
theorem d_mo_quarter_99 : decode prog_7_method_3_code 99 = .ok (.ireturn, 1) := by decide +kernel
theorem d_mo_quarter_100 : decode prog_7_method_3_code 100 = .ok (.sipush 882, 3) := by decide +kernel
theorem d_mo_quarter_103 : decode prog_7_method_3_code 103 = .ok (.ireturn, 1) := by decide +kernel
theorem d_mo_quarter_104 : decode prog_7_method_3_code 104 = .ok (.sipush 831, 3) := by decide +kernel
theorem d_mo_quarter_107 : decode prog_7_method_3_code 107 = .ok (.ireturn, 1) := by decide +kernel
theorem d_mo_quarter_108 : decode prog_7_method_3_code 108 = .ok (.sipush 773, 3) := by decide +kernel
theorem d_mo_quarter_111 : decode prog_7_method_3_code 111 = .ok (.ireturn, 1) := by decide +kernel
theorem d_mo_quarter_112 : decode prog_7_method_3_code 112 = .ok (.sipush 707, 3) := by decide +kernel
theorem d_mo_quarter_115 : decode prog_7_method_3_code 115 = .ok (.ireturn, 1) := by decide +kernel
theorem d_mo_quarter_116 : decode prog_7_method_3_code 116 = .ok (.sipush 634, 3) := by decide +kernel
theorem d_mo_quarter_119 : decode prog_7_method_3_code 119 = .ok (.ireturn, 1) := by decide +kernel
theorem d_mo_quarter_120 : decode prog_7_method_3_code 120 = .ok (.sipush 556, 3) := by decide +kernel
theorem d_mo_quarter_123 : decode prog_7_method_3_code 123 = .ok (.ireturn, 1) := by decide +kernel
theorem d_mo_quarter_124 : decode prog_7_method_3_code 124 = .ok (.sipush 471, 3) := by decide +kernel
theorem d_mo_quarter_127 : decode prog_7_method_3_code 127 = .ok (.ireturn, 1) := by decide +kernel
theorem d_mo_quarter_128 : decode prog_7_method_3_code 128 = .ok (.sipush 383, 3) := by decide +kernel
theorem d_mo_quarter_131 : decode prog_7_method_3_code 131 = .ok (.ireturn, 1) := by decide +kernel
theorem d_mo_quarter_132 : decode prog_7_method_3_code 132 = .ok (.sipush 290, 3) := by decide +kernel
theorem d_mo_quarter_135 : decode prog_7_method_3_code 135 = .ok (.ireturn, 1) := by decide +kernel
theorem d_mo_quarter_136 : decode prog_7_method_3_code 136 = .ok (.sipush 195, 3) := by decide +kernel
theorem d_mo_quarter_139 : decode prog_7_method_3_code 139 = .ok (.ireturn, 1) := by decide +kernel
theorem d_mo_quarter_140 : decode prog_7_method_3_code 140 = .ok (.bipush 98, 2) := by decide +kernel
theorem d_mo_quarter_142 : decode prog_7_method_3_code 142 = .ok (.ireturn, 1) := by decide +kernel
theorem d_mo_quarter_143 : decode prog_7_method_3_code 143 = .ok (.iconst 0, 1) := by decide +kernel
theorem d_mo_quarter_144 : decode prog_7_method_3_code 144 = .ok (.ireturn, 1) := by decide +kernel
theorem d_mo_within_0 : decode prog_7_method_4_code 0 = .ok (.iload_n 0, 1) := by decide +kernel
theorem d_mo_within_1 : decode prog_7_method_4_code 1 = .ok (.iload_n 1, 1) := by decide +kernel
theorem d_mo_within_2 : decode prog_7_method_4_code 2 = .ok (.if_icmp .lt 12, 3) := by decide +kernel
theorem d_mo_within_5 : decode prog_7_method_4_code 5 = .ok (.iload_n 0, 1) := by decide +kernel
theorem d_mo_within_6 : decode prog_7_method_4_code 6 = .ok (.iload_n 2, 1) := by decide +kernel
theorem d_mo_within_7 : decode prog_7_method_4_code 7 = .ok (.if_icmp .gt 7, 3) := by decide +kernel
theorem d_mo_within_10 : decode prog_7_method_4_code 10 = .ok (.iconst 1, 1) := by decide +kernel
theorem d_mo_within_11 : decode prog_7_method_4_code 11 = .ok (.goto 4, 3) := by decide +kernel
theorem d_mo_within_14 : decode prog_7_method_4_code 14 = .ok (.iconst 0, 1) := by decide +kernel
theorem d_mo_within_15 : decode prog_7_method_4_code 15 = .ok (.ireturn, 1) := by decide +kernel
theorem d_mo_isIn_0 : decode prog_7_method_5_code 0 = .ok (.iload_n 0, 1) := by decide +kernel
theorem d_mo_isIn_1 : decode prog_7_method_5_code 1 = .ok (.iload_n 1, 1) := by decide +kernel
theorem d_mo_isIn_2 : decode prog_7_method_5_code 2 = .ok (.ishr, 1) := by decide +kernel
theorem d_mo_isIn_3 : decode prog_7_method_5_code 3 = .ok (.iconst 1, 1) := by decide +kernel
theorem d_mo_isIn_4 : decode prog_7_method_5_code 4 = .ok (.iand, 1) := by decide +kernel
theorem d_mo_isIn_5 : decode prog_7_method_5_code 5 = .ok (.iconst 1, 1) := by decide +kernel
theorem d_mo_isIn_6 : decode prog_7_method_5_code 6 = .ok (.if_icmp .ne 7, 3) := by decide +kernel
theorem d_mo_isIn_9 : decode prog_7_method_5_code 9 = .ok (.iconst 1, 1) := by decide +kernel
theorem d_mo_isIn_10 : decode prog_7_method_5_code 10 = .ok (.goto 4, 3) := by decide +kernel
theorem d_mo_isIn_13 : decode prog_7_method_5_code 13 = .ok (.iconst 0, 1) := by decide +kernel
theorem d_mo_isIn_14 : decode prog_7_method_5_code 14 = .ok (.ireturn, 1) := by decide +kernel
theorem d_mo_size_0 : decode prog_7_method_6_code 0 = .ok (.iconst 0, 1) := by decide +kernel
theorem d_mo_size_1 : decode prog_7_method_6_code 1 = .ok (.istore_n 1, 1) := by decide +kernel
theorem d_mo_size_2 : decode prog_7_method_6_code 2 = .ok (.iconst 0, 1) := by decide +kernel
theorem d_mo_size_3 : decode prog_7_method_6_code 3 = .ok (.istore_n 2, 1) := by decide +kernel
theorem d_mo_size_4 : decode prog_7_method_6_code 4 = .ok (.iload_n 2, 1) := by decide +kernel
theorem d_mo_size_5 : decode prog_7_method_6_code 5 = .ok (.bipush 16, 2) := by decide +kernel
theorem d_mo_size_7 : decode prog_7_method_6_code 7 = .ok (.if_icmp .ge 17, 3) := by decide +kernel
theorem d_mo_size_10 : decode prog_7_method_6_code 10 = .ok (.iload_n 1, 1) := by decide +kernel
theorem d_mo_size_11 : decode prog_7_method_6_code 11 = .ok (.iload_n 0, 1) := by decide +kernel
theorem d_mo_size_12 : decode prog_7_method_6_code 12 = .ok (.iload_n 2, 1) := by decide +kernel
theorem d_mo_size_13 : decode prog_7_method_6_code 13 = .ok (.ishr, 1) := by decide +kernel
theorem d_mo_size_14 : decode prog_7_method_6_code 14 = .ok (.iconst 1, 1) := by decide +kernel
theorem d_mo_size_15 : decode prog_7_method_6_code 15 = .ok (.iand, 1) := by decide +kernel
theorem d_mo_size_16 : decode prog_7_method_6_code 16 = .ok (.iadd, 1) := by decide +kernel
theorem d_mo_size_17 : decode prog_7_method_6_code 17 = .ok (.istore_n 1, 1) := by decide +kernel
theorem d_mo_size_18 : decode prog_7_method_6_code 18 = .ok (.iinc 2 1, 3) := by decide +kernel
theorem d_mo_size_21 : decode prog_7_method_6_code 21 = .ok (.goto (-17), 3) := by decide +kernel
theorem d_mo_size_24 : decode prog_7_method_6_code 24 = .ok (.iload_n 1, 1) := by decide +kernel
theorem d_mo_size_25 : decode prog_7_method_6_code 25 = .ok (.ireturn, 1) := by decide +kernel
theorem d_mo_by_0 : decode prog_7_method_7_code 0 = .ok (.iload_n 0, 1) := by decide +kernel
theorem d_mo_by_1 : decode prog_7_method_7_code 1 = .ok (.iload_n 1, 1) := by decide +kernel
theorem d_mo_by_2 : decode prog_7_method_7_code 2 = .ok (.idiv, 1) := by decide +kernel
theorem d_mo_by_3 : decode prog_7_method_7_code 3 = .ok (.istore_n 2, 1) := by decide +kernel
theorem d_mo_by_4 : decode prog_7_method_7_code 4 = .ok (.iload_n 0, 1) := by decide +kernel
theorem d_mo_by_5 : decode prog_7_method_7_code 5 = .ok (.iload_n 1, 1) := by decide +kernel
theorem d_mo_by_6 : decode prog_7_method_7_code 6 = .ok (.irem, 1) := by decide +kernel
theorem d_mo_by_7 : decode prog_7_method_7_code 7 = .ok (.ifCond .ge 9, 3) := by decide +kernel
theorem d_mo_by_10 : decode prog_7_method_7_code 10 = .ok (.iload_n 2, 1) := by decide +kernel
theorem d_mo_by_11 : decode prog_7_method_7_code 11 = .ok (.iconst 1, 1) := by decide +kernel
theorem d_mo_by_12 : decode prog_7_method_7_code 12 = .ok (.isub, 1) := by decide +kernel
theorem d_mo_by_13 : decode prog_7_method_7_code 13 = .ok (.goto 4, 3) := by decide +kernel
theorem d_mo_by_16 : decode prog_7_method_7_code 16 = .ok (.iload_n 2, 1) := by decide +kernel
theorem d_mo_by_17 : decode prog_7_method_7_code 17 = .ok (.ireturn, 1) := by decide +kernel
theorem d_mo_letter_0 : decode prog_7_method_8_code 0 = .ok (.iload_n 1, 1) := by decide +kernel
theorem d_mo_letter_1 : decode prog_7_method_8_code 1 = .ok (.bipush 32, 2) := by decide +kernel
theorem d_mo_letter_3 : decode prog_7_method_8_code 3 = .ok (.bipush 126, 2) := by decide +kernel
theorem d_mo_letter_5 : decode prog_7_method_8_code 5 = .ok (.invokestatic 93, 3) := by decide +kernel
theorem d_mo_letter_8 : decode prog_7_method_8_code 8 = .ok (.ifCond .ne 7, 3) := by decide +kernel
theorem d_mo_letter_11 : decode prog_7_method_8_code 11 = .ok (.sipush (-10102), 3) := by decide +kernel
theorem d_mo_letter_14 : decode prog_7_method_8_code 14 = .ok (.ireturn, 1) := by decide +kernel
theorem d_mo_letter_15 : decode prog_7_method_8_code 15 = .ok (.aload_n 0, 1) := by decide +kernel
theorem d_mo_letter_16 : decode prog_7_method_8_code 16 = .ok (.getfield 97, 3) := by decide +kernel
theorem d_mo_letter_19 : decode prog_7_method_8_code 19 = .ok (.bipush 96, 2) := by decide +kernel
theorem d_mo_letter_21 : decode prog_7_method_8_code 21 = .ok (.if_icmp .ne 7, 3) := by decide +kernel
theorem d_mo_letter_24 : decode prog_7_method_8_code 24 = .ok (.sipush (-10104), 3) := by decide +kernel
theorem d_mo_letter_27 : decode prog_7_method_8_code 27 = .ok (.ireturn, 1) := by decide +kernel
theorem d_mo_letter_28 : decode prog_7_method_8_code 28 = .ok (.aload_n 0, 1) := by decide +kernel
theorem d_mo_letter_29 : decode prog_7_method_8_code 29 = .ok (.getfield 40, 3) := by decide +kernel
theorem d_mo_letter_32 : decode prog_7_method_8_code 32 = .ok (.aload_n 0, 1) := by decide +kernel
theorem d_mo_letter_33 : decode prog_7_method_8_code 33 = .ok (.getfield 97, 3) := by decide +kernel
theorem d_mo_letter_36 : decode prog_7_method_8_code 36 = .ok (.iload_n 1, 1) := by decide +kernel
theorem d_mo_letter_37 : decode prog_7_method_8_code 37 = .ok (.i2b, 1) := by decide +kernel
theorem d_mo_letter_38 : decode prog_7_method_8_code 38 = .ok (.bastore, 1) := by decide +kernel
theorem d_mo_letter_39 : decode prog_7_method_8_code 39 = .ok (.aload_n 0, 1) := by decide +kernel
theorem d_mo_letter_40 : decode prog_7_method_8_code 40 = .ok (.dup, 1) := by decide +kernel
theorem d_mo_letter_41 : decode prog_7_method_8_code 41 = .ok (.getfield 97, 3) := by decide +kernel
theorem d_mo_letter_44 : decode prog_7_method_8_code 44 = .ok (.iconst 1, 1) := by decide +kernel
theorem d_mo_letter_45 : decode prog_7_method_8_code 45 = .ok (.iadd, 1) := by decide +kernel
theorem d_mo_letter_46 : decode prog_7_method_8_code 46 = .ok (.putfield 97, 3) := by decide +kernel
theorem d_mo_letter_49 : decode prog_7_method_8_code 49 = .ok (.aload_n 0, 1) := by decide +kernel
theorem d_mo_letter_50 : decode prog_7_method_8_code 50 = .ok (.getfield 97, 3) := by decide +kernel
theorem d_mo_letter_53 : decode prog_7_method_8_code 53 = .ok (.ireturn, 1) := by decide +kernel
theorem d_mo_blank_0 : decode prog_7_method_9_code 0 = .ok (.aload_n 0, 1) := by decide +kernel
theorem d_mo_blank_1 : decode prog_7_method_9_code 1 = .ok (.getfield 97, 3) := by decide +kernel
theorem d_mo_blank_4 : decode prog_7_method_9_code 4 = .ok (.istore_n 1, 1) := by decide +kernel
theorem d_mo_blank_5 : decode prog_7_method_9_code 5 = .ok (.aload_n 0, 1) := by decide +kernel
theorem d_mo_blank_6 : decode prog_7_method_9_code 6 = .ok (.iconst 0, 1) := by decide +kernel
theorem d_mo_blank_7 : decode prog_7_method_9_code 7 = .ok (.putfield 97, 3) := by decide +kernel
theorem d_mo_blank_10 : decode prog_7_method_9_code 10 = .ok (.iload_n 1, 1) := by decide +kernel
theorem d_mo_blank_11 : decode prog_7_method_9_code 11 = .ok (.ireturn, 1) := by decide +kernel
theorem d_mo_kindBy_0 : decode prog_7_method_10_code 0 = .ok (.iload_n 0, 1) := by decide +kernel
theorem d_mo_kindBy_1 : decode prog_7_method_10_code 1 = .ok (.lookupswitch 61 #[(98, 55), (102, 57), (112, 51), (115, 53), (116, 59)], 51) := by decide +kernel
theorem d_mo_kindBy_52 : decode prog_7_method_10_code 52 = .ok (.iconst 0, 1) := by decide +kernel
theorem d_mo_kindBy_53 : decode prog_7_method_10_code 53 = .ok (.ireturn, 1) := by decide +kernel
theorem d_mo_kindBy_54 : decode prog_7_method_10_code 54 = .ok (.iconst 1, 1) := by decide +kernel
theorem d_mo_kindBy_55 : decode prog_7_method_10_code 55 = .ok (.ireturn, 1) := by decide +kernel
theorem d_mo_kindBy_56 : decode prog_7_method_10_code 56 = .ok (.iconst 2, 1) := by decide +kernel
theorem d_mo_kindBy_57 : decode prog_7_method_10_code 57 = .ok (.ireturn, 1) := by decide +kernel
theorem d_mo_kindBy_58 : decode prog_7_method_10_code 58 = .ok (.iconst 3, 1) := by decide +kernel
theorem d_mo_kindBy_59 : decode prog_7_method_10_code 59 = .ok (.ireturn, 1) := by decide +kernel
theorem d_mo_kindBy_60 : decode prog_7_method_10_code 60 = .ok (.iconst 4, 1) := by decide +kernel
theorem d_mo_kindBy_61 : decode prog_7_method_10_code 61 = .ok (.ireturn, 1) := by decide +kernel
theorem d_mo_kindBy_62 : decode prog_7_method_10_code 62 = .ok (.sipush (-10001), 3) := by decide +kernel
theorem d_mo_kindBy_65 : decode prog_7_method_10_code 65 = .ok (.ireturn, 1) := by decide +kernel
theorem d_mo_at_0 : decode prog_7_method_11_code 0 = .ok (.iload_n 1, 1) := by decide +kernel
theorem d_mo_at_1 : decode prog_7_method_11_code 1 = .ok (.aload_n 0, 1) := by decide +kernel
theorem d_mo_at_2 : decode prog_7_method_11_code 2 = .ok (.getfield 97, 3) := by decide +kernel
theorem d_mo_at_5 : decode prog_7_method_11_code 5 = .ok (.if_icmp .ge 12, 3) := by decide +kernel
theorem d_mo_at_8 : decode prog_7_method_11_code 8 = .ok (.aload_n 0, 1) := by decide +kernel
theorem d_mo_at_9 : decode prog_7_method_11_code 9 = .ok (.getfield 40, 3) := by decide +kernel
theorem d_mo_at_12 : decode prog_7_method_11_code 12 = .ok (.iload_n 1, 1) := by decide +kernel
theorem d_mo_at_13 : decode prog_7_method_11_code 13 = .ok (.baload, 1) := by decide +kernel
theorem d_mo_at_14 : decode prog_7_method_11_code 14 = .ok (.goto 4, 3) := by decide +kernel
theorem d_mo_at_17 : decode prog_7_method_11_code 17 = .ok (.iconst 0, 1) := by decide +kernel
theorem d_mo_at_18 : decode prog_7_method_11_code 18 = .ok (.ireturn, 1) := by decide +kernel
theorem d_mo_isFigure_0 : decode prog_7_method_12_code 0 = .ok (.aload_n 0, 1) := by decide +kernel
theorem d_mo_isFigure_1 : decode prog_7_method_12_code 1 = .ok (.iload_n 1, 1) := by decide +kernel
theorem d_mo_isFigure_2 : decode prog_7_method_12_code 2 = .ok (.invokevirtual 101, 3) := by decide +kernel
theorem d_mo_isFigure_5 : decode prog_7_method_12_code 5 = .ok (.bipush 48, 2) := by decide +kernel
theorem d_mo_isFigure_7 : decode prog_7_method_12_code 7 = .ok (.isub, 1) := by decide +kernel
theorem d_mo_isFigure_8 : decode prog_7_method_12_code 8 = .ok (.iconst 0, 1) := by decide +kernel
theorem d_mo_isFigure_9 : decode prog_7_method_12_code 9 = .ok (.bipush 9, 2) := by decide +kernel
theorem d_mo_isFigure_11 : decode prog_7_method_12_code 11 = .ok (.invokestatic 93, 3) := by decide +kernel
theorem d_mo_isFigure_14 : decode prog_7_method_12_code 14 = .ok (.ireturn, 1) := by decide +kernel
theorem d_mo_readNumber_0 : decode prog_7_method_13_code 0 = .ok (.aload_n 0, 1) := by decide +kernel
theorem d_mo_readNumber_1 : decode prog_7_method_13_code 1 = .ok (.iload_n 1, 1) := by decide +kernel
theorem d_mo_readNumber_2 : decode prog_7_method_13_code 2 = .ok (.invokevirtual 104, 3) := by decide +kernel
theorem d_mo_readNumber_5 : decode prog_7_method_13_code 5 = .ok (.ifCond .eq 18, 3) := by decide +kernel
theorem d_mo_readNumber_8 : decode prog_7_method_13_code 8 = .ok (.aload_n 0, 1) := by decide +kernel
theorem d_mo_readNumber_9 : decode prog_7_method_13_code 9 = .ok (.iload_n 1, 1) := by decide +kernel
theorem d_mo_readNumber_10 : decode prog_7_method_13_code 10 = .ok (.invokevirtual 101, 3) := by decide +kernel
theorem d_mo_readNumber_13 : decode prog_7_method_13_code 13 = .ok (.bipush 48, 2) := by decide +kernel
theorem d_mo_readNumber_15 : decode prog_7_method_13_code 15 = .ok (.isub, 1) := by decide +kernel
theorem d_mo_readNumber_16 : decode prog_7_method_13_code 16 = .ok (.iload_n 3, 1) := by decide +kernel
theorem d_mo_readNumber_17 : decode prog_7_method_13_code 17 = .ok (.bipush 10, 2) := by decide +kernel
theorem d_mo_readNumber_19 : decode prog_7_method_13_code 19 = .ok (.idiv, 1) := by decide +kernel
theorem d_mo_readNumber_20 : decode prog_7_method_13_code 20 = .ok (.if_icmp .le 10, 3) := by decide +kernel
theorem d_mo_readNumber_23 : decode prog_7_method_13_code 23 = .ok (.aload_n 0, 1) := by decide +kernel
theorem d_mo_readNumber_24 : decode prog_7_method_13_code 24 = .ok (.iconst 1, 1) := by decide +kernel
theorem d_mo_readNumber_25 : decode prog_7_method_13_code 25 = .ok (.putfield 108, 3) := by decide +kernel
theorem d_mo_readNumber_28 : decode prog_7_method_13_code 28 = .ok (.iload_n 1, 1) := by decide +kernel
theorem d_mo_readNumber_29 : decode prog_7_method_13_code 29 = .ok (.ireturn, 1) := by decide +kernel
theorem d_mo_readNumber_30 : decode prog_7_method_13_code 30 = .ok (.aload_n 0, 1) := by decide +kernel
theorem d_mo_readNumber_31 : decode prog_7_method_13_code 31 = .ok (.bipush 10, 2) := by decide +kernel
theorem d_mo_readNumber_33 : decode prog_7_method_13_code 33 = .ok (.aload_n 0, 1) := by decide +kernel
theorem d_mo_readNumber_34 : decode prog_7_method_13_code 34 = .ok (.iload_n 1, 1) := by decide +kernel
theorem d_mo_readNumber_35 : decode prog_7_method_13_code 35 = .ok (.invokevirtual 101, 3) := by decide +kernel
theorem d_mo_readNumber_38 : decode prog_7_method_13_code 38 = .ok (.bipush 48, 2) := by decide +kernel
theorem d_mo_readNumber_40 : decode prog_7_method_13_code 40 = .ok (.isub, 1) := by decide +kernel
theorem d_mo_readNumber_41 : decode prog_7_method_13_code 41 = .ok (.imul, 1) := by decide +kernel
theorem d_mo_readNumber_42 : decode prog_7_method_13_code 42 = .ok (.aload_n 0, 1) := by decide +kernel
theorem d_mo_readNumber_43 : decode prog_7_method_13_code 43 = .ok (.iload_n 1, 1) := by decide +kernel
theorem d_mo_readNumber_44 : decode prog_7_method_13_code 44 = .ok (.iconst 1, 1) := by decide +kernel
theorem d_mo_readNumber_45 : decode prog_7_method_13_code 45 = .ok (.iadd, 1) := by decide +kernel
theorem d_mo_readNumber_46 : decode prog_7_method_13_code 46 = .ok (.invokevirtual 101, 3) := by decide +kernel
theorem d_mo_readNumber_49 : decode prog_7_method_13_code 49 = .ok (.iadd, 1) := by decide +kernel
theorem d_mo_readNumber_50 : decode prog_7_method_13_code 50 = .ok (.bipush 48, 2) := by decide +kernel
theorem d_mo_readNumber_52 : decode prog_7_method_13_code 52 = .ok (.isub, 1) := by decide +kernel
theorem d_mo_readNumber_53 : decode prog_7_method_13_code 53 = .ok (.putfield 112, 3) := by decide +kernel
theorem d_mo_readNumber_56 : decode prog_7_method_13_code 56 = .ok (.aload_n 0, 1) := by decide +kernel
theorem d_mo_readNumber_57 : decode prog_7_method_13_code 57 = .ok (.iload_n 1, 1) := by decide +kernel
theorem d_mo_readNumber_58 : decode prog_7_method_13_code 58 = .ok (.iconst 1, 1) := by decide +kernel
theorem d_mo_readNumber_59 : decode prog_7_method_13_code 59 = .ok (.iadd, 1) := by decide +kernel
theorem d_mo_readNumber_60 : decode prog_7_method_13_code 60 = .ok (.invokevirtual 104, 3) := by decide +kernel
theorem d_mo_readNumber_63 : decode prog_7_method_13_code 63 = .ok (.ifCond .eq 15, 3) := by decide +kernel
theorem d_mo_readNumber_66 : decode prog_7_method_13_code 66 = .ok (.aload_n 0, 1) := by decide +kernel
theorem d_mo_readNumber_67 : decode prog_7_method_13_code 67 = .ok (.getfield 112, 3) := by decide +kernel
theorem d_mo_readNumber_70 : decode prog_7_method_13_code 70 = .ok (.iload_n 2, 1) := by decide +kernel
theorem d_mo_readNumber_71 : decode prog_7_method_13_code 71 = .ok (.iload_n 3, 1) := by decide +kernel
theorem d_mo_readNumber_72 : decode prog_7_method_13_code 72 = .ok (.invokestatic 93, 3) := by decide +kernel
theorem d_mo_readNumber_75 : decode prog_7_method_13_code 75 = .ok (.ifCond .ne 12, 3) := by decide +kernel
theorem d_mo_readNumber_78 : decode prog_7_method_13_code 78 = .ok (.aload_n 0, 1) := by decide +kernel
theorem d_mo_readNumber_79 : decode prog_7_method_13_code 79 = .ok (.iconst 1, 1) := by decide +kernel
theorem d_mo_readNumber_80 : decode prog_7_method_13_code 80 = .ok (.putfield 108, 3) := by decide +kernel
theorem d_mo_readNumber_83 : decode prog_7_method_13_code 83 = .ok (.iload_n 1, 1) := by decide +kernel
theorem d_mo_readNumber_84 : decode prog_7_method_13_code 84 = .ok (.iconst 1, 1) := by decide +kernel
theorem d_mo_readNumber_85 : decode prog_7_method_13_code 85 = .ok (.iadd, 1) := by decide +kernel
theorem d_mo_readNumber_86 : decode prog_7_method_13_code 86 = .ok (.ireturn, 1) := by decide +kernel
theorem d_mo_readNumber_87 : decode prog_7_method_13_code 87 = .ok (.iload_n 1, 1) := by decide +kernel
theorem d_mo_readNumber_88 : decode prog_7_method_13_code 88 = .ok (.iconst 2, 1) := by decide +kernel
theorem d_mo_readNumber_89 : decode prog_7_method_13_code 89 = .ok (.iadd, 1) := by decide +kernel
theorem d_mo_readNumber_90 : decode prog_7_method_13_code 90 = .ok (.ireturn, 1) := by decide +kernel
theorem d_mo_readWave_0 : decode prog_7_method_14_code 0 = .ok (.bipush 9, 2) := by decide +kernel
theorem d_mo_readWave_2 : decode prog_7_method_14_code 2 = .ok (.aload_n 0, 1) := by decide +kernel
theorem d_mo_readWave_3 : decode prog_7_method_14_code 3 = .ok (.getfield 115, 3) := by decide +kernel
theorem d_mo_readWave_6 : decode prog_7_method_14_code 6 = .ok (.imul, 1) := by decide +kernel
theorem d_mo_readWave_7 : decode prog_7_method_14_code 7 = .ok (.iconst 3, 1) := by decide +kernel
theorem d_mo_readWave_8 : decode prog_7_method_14_code 8 = .ok (.aload_n 0, 1) := by decide +kernel
theorem d_mo_readWave_9 : decode prog_7_method_14_code 9 = .ok (.getfield 56, 3) := by decide +kernel
theorem d_mo_readWave_12 : decode prog_7_method_14_code 12 = .ok (.aload_n 0, 1) := by decide +kernel
theorem d_mo_readWave_13 : decode prog_7_method_14_code 13 = .ok (.getfield 115, 3) := by decide +kernel
theorem d_mo_readWave_16 : decode prog_7_method_14_code 16 = .ok (.iaload, 1) := by decide +kernel
theorem d_mo_readWave_17 : decode prog_7_method_14_code 17 = .ok (.imul, 1) := by decide +kernel
theorem d_mo_readWave_18 : decode prog_7_method_14_code 18 = .ok (.iadd, 1) := by decide +kernel
theorem d_mo_readWave_19 : decode prog_7_method_14_code 19 = .ok (.istore_n 2, 1) := by decide +kernel
theorem d_mo_readWave_20 : decode prog_7_method_14_code 20 = .ok (.iload_n 1, 1) := by decide +kernel
theorem d_mo_readWave_21 : decode prog_7_method_14_code 21 = .ok (.istore_n 3, 1) := by decide +kernel
theorem d_mo_readWave_22 : decode prog_7_method_14_code 22 = .ok (.iconst 0, 1) := by decide +kernel
theorem d_mo_readWave_23 : decode prog_7_method_14_code 23 = .ok (.istore 4, 2) := by decide +kernel
theorem d_mo_readWave_25 : decode prog_7_method_14_code 25 = .ok (.iload 4, 2) := by decide +kernel
theorem d_mo_readWave_27 : decode prog_7_method_14_code 27 = .ok (.iconst 3, 1) := by decide +kernel
theorem d_mo_readWave_28 : decode prog_7_method_14_code 28 = .ok (.if_icmp .ge 58, 3) := by decide +kernel
theorem d_mo_readWave_31 : decode prog_7_method_14_code 31 = .ok (.aload_n 0, 1) := by decide +kernel
theorem d_mo_readWave_32 : decode prog_7_method_14_code 32 = .ok (.getfield 108, 3) := by decide +kernel
theorem d_mo_readWave_35 : decode prog_7_method_14_code 35 = .ok (.ifCond .ne 51, 3) := by decide +kernel
theorem d_mo_readWave_38 : decode prog_7_method_14_code 38 = .ok (.aload_n 0, 1) := by decide +kernel
theorem d_mo_readWave_39 : decode prog_7_method_14_code 39 = .ok (.iload_n 3, 1) := by decide +kernel
theorem d_mo_readWave_40 : decode prog_7_method_14_code 40 = .ok (.iload 4, 2) := by decide +kernel
theorem d_mo_readWave_42 : decode prog_7_method_14_code 42 = .ok (.ifCond .ne 7, 3) := by decide +kernel
theorem d_mo_readWave_45 : decode prog_7_method_14_code 45 = .ok (.iconst 1, 1) := by decide +kernel
theorem d_mo_readWave_46 : decode prog_7_method_14_code 46 = .ok (.goto 4, 3) := by decide +kernel
theorem d_mo_readWave_49 : decode prog_7_method_14_code 49 = .ok (.iconst 0, 1) := by decide +kernel
theorem d_mo_readWave_50 : decode prog_7_method_14_code 50 = .ok (.iload 4, 2) := by decide +kernel
theorem d_mo_readWave_52 : decode prog_7_method_14_code 52 = .ok (.iconst 2, 1) := by decide +kernel
theorem d_mo_readWave_53 : decode prog_7_method_14_code 53 = .ok (.if_icmp .ne 8, 3) := by decide +kernel
theorem d_mo_readWave_56 : decode prog_7_method_14_code 56 = .ok (.bipush 63, 2) := by decide +kernel
theorem d_mo_readWave_58 : decode prog_7_method_14_code 58 = .ok (.goto 5, 3) := by decide +kernel
theorem d_mo_readWave_61 : decode prog_7_method_14_code 61 = .ok (.bipush 99, 2) := by decide +kernel
theorem d_mo_readWave_63 : decode prog_7_method_14_code 63 = .ok (.invokevirtual 118, 3) := by decide +kernel
theorem d_mo_readWave_66 : decode prog_7_method_14_code 66 = .ok (.istore_n 3, 1) := by decide +kernel
theorem d_mo_readWave_67 : decode prog_7_method_14_code 67 = .ok (.aload_n 0, 1) := by decide +kernel
theorem d_mo_readWave_68 : decode prog_7_method_14_code 68 = .ok (.getfield 59, 3) := by decide +kernel
theorem d_mo_readWave_71 : decode prog_7_method_14_code 71 = .ok (.iload_n 2, 1) := by decide +kernel
theorem d_mo_readWave_72 : decode prog_7_method_14_code 72 = .ok (.iload 4, 2) := by decide +kernel
theorem d_mo_readWave_74 : decode prog_7_method_14_code 74 = .ok (.iadd, 1) := by decide +kernel
theorem d_mo_readWave_75 : decode prog_7_method_14_code 75 = .ok (.aload_n 0, 1) := by decide +kernel
theorem d_mo_readWave_76 : decode prog_7_method_14_code 76 = .ok (.getfield 112, 3) := by decide +kernel
theorem d_mo_readWave_79 : decode prog_7_method_14_code 79 = .ok (.iastore, 1) := by decide +kernel
theorem d_mo_readWave_80 : decode prog_7_method_14_code 80 = .ok (.iinc 4 1, 3) := by decide +kernel
theorem d_mo_readWave_83 : decode prog_7_method_14_code 83 = .ok (.goto (-58), 3) := by decide +kernel
theorem d_mo_readWave_86 : decode prog_7_method_14_code 86 = .ok (.aload_n 0, 1) := by decide +kernel
theorem d_mo_readWave_87 : decode prog_7_method_14_code 87 = .ok (.getfield 56, 3) := by decide +kernel
theorem d_mo_readWave_90 : decode prog_7_method_14_code 90 = .ok (.aload_n 0, 1) := by decide +kernel
theorem d_mo_readWave_91 : decode prog_7_method_14_code 91 = .ok (.getfield 115, 3) := by decide +kernel
theorem d_mo_readWave_94 : decode prog_7_method_14_code 94 = .ok (.dup2, 1) := by decide +kernel
theorem d_mo_readWave_95 : decode prog_7_method_14_code 95 = .ok (.iaload, 1) := by decide +kernel
theorem d_mo_readWave_96 : decode prog_7_method_14_code 96 = .ok (.iconst 1, 1) := by decide +kernel
theorem d_mo_readWave_97 : decode prog_7_method_14_code 97 = .ok (.iadd, 1) := by decide +kernel
theorem d_mo_readWave_98 : decode prog_7_method_14_code 98 = .ok (.iastore, 1) := by decide +kernel
theorem d_mo_readWave_99 : decode prog_7_method_14_code 99 = .ok (.iload_n 3, 1) := by decide +kernel
theorem d_mo_readWave_100 : decode prog_7_method_14_code 100 = .ok (.ireturn, 1) := by decide +kernel
theorem d_mo_readPort_0 : decode prog_7_method_15_code 0 = .ok (.aload_n 0, 1) := by decide +kernel
theorem d_mo_readPort_1 : decode prog_7_method_15_code 1 = .ok (.iload_n 1, 1) := by decide +kernel
theorem d_mo_readPort_2 : decode prog_7_method_15_code 2 = .ok (.invokevirtual 101, 3) := by decide +kernel
theorem d_mo_readPort_5 : decode prog_7_method_15_code 5 = .ok (.invokestatic 122, 3) := by decide +kernel
theorem d_mo_readPort_8 : decode prog_7_method_15_code 8 = .ok (.istore_n 2, 1) := by decide +kernel
theorem d_mo_readPort_9 : decode prog_7_method_15_code 9 = .ok (.iload_n 2, 1) := by decide +kernel
theorem d_mo_readPort_10 : decode prog_7_method_15_code 10 = .ok (.sipush (-10001), 3) := by decide +kernel
theorem d_mo_readPort_13 : decode prog_7_method_15_code 13 = .ok (.if_icmp .eq 15, 3) := by decide +kernel
theorem d_mo_readPort_16 : decode prog_7_method_15_code 16 = .ok (.iload_n 2, 1) := by decide +kernel
theorem d_mo_readPort_17 : decode prog_7_method_15_code 17 = .ok (.iconst 3, 1) := by decide +kernel
theorem d_mo_readPort_18 : decode prog_7_method_15_code 18 = .ok (.if_icmp .ne 17, 3) := by decide +kernel
theorem d_mo_readPort_21 : decode prog_7_method_15_code 21 = .ok (.aload_n 0, 1) := by decide +kernel
theorem d_mo_readPort_22 : decode prog_7_method_15_code 22 = .ok (.getfield 115, 3) := by decide +kernel
theorem d_mo_readPort_25 : decode prog_7_method_15_code 25 = .ok (.ifCond .ne 10, 3) := by decide +kernel
theorem d_mo_readPort_28 : decode prog_7_method_15_code 28 = .ok (.aload_n 0, 1) := by decide +kernel
theorem d_mo_readPort_29 : decode prog_7_method_15_code 29 = .ok (.iconst 1, 1) := by decide +kernel
theorem d_mo_readPort_30 : decode prog_7_method_15_code 30 = .ok (.putfield 108, 3) := by decide +kernel
theorem d_mo_readPort_33 : decode prog_7_method_15_code 33 = .ok (.iload_n 1, 1) := by decide +kernel
theorem d_mo_readPort_34 : decode prog_7_method_15_code 34 = .ok (.ireturn, 1) := by decide +kernel
theorem d_mo_readPort_35 : decode prog_7_method_15_code 35 = .ok (.aload_n 0, 1) := by decide +kernel
theorem d_mo_readPort_36 : decode prog_7_method_15_code 36 = .ok (.getfield 44, 3) := by decide +kernel
theorem d_mo_readPort_39 : decode prog_7_method_15_code 39 = .ok (.aload_n 0, 1) := by decide +kernel
theorem d_mo_readPort_40 : decode prog_7_method_15_code 40 = .ok (.getfield 115, 3) := by decide +kernel
theorem d_mo_readPort_43 : decode prog_7_method_15_code 43 = .ok (.iload_n 2, 1) := by decide +kernel
theorem d_mo_readPort_44 : decode prog_7_method_15_code 44 = .ok (.iastore, 1) := by decide +kernel
theorem d_mo_readPort_45 : decode prog_7_method_15_code 45 = .ok (.aload_n 0, 1) := by decide +kernel
theorem d_mo_readPort_46 : decode prog_7_method_15_code 46 = .ok (.getfield 56, 3) := by decide +kernel
theorem d_mo_readPort_49 : decode prog_7_method_15_code 49 = .ok (.aload_n 0, 1) := by decide +kernel
theorem d_mo_readPort_50 : decode prog_7_method_15_code 50 = .ok (.getfield 115, 3) := by decide +kernel
theorem d_mo_readPort_53 : decode prog_7_method_15_code 53 = .ok (.iconst 0, 1) := by decide +kernel
theorem d_mo_readPort_54 : decode prog_7_method_15_code 54 = .ok (.iastore, 1) := by decide +kernel
theorem d_mo_readPort_55 : decode prog_7_method_15_code 55 = .ok (.aload_n 0, 1) := by decide +kernel
theorem d_mo_readPort_56 : decode prog_7_method_15_code 56 = .ok (.getfield 53, 3) := by decide +kernel
theorem d_mo_readPort_59 : decode prog_7_method_15_code 59 = .ok (.aload_n 0, 1) := by decide +kernel
theorem d_mo_readPort_60 : decode prog_7_method_15_code 60 = .ok (.getfield 115, 3) := by decide +kernel
theorem d_mo_readPort_63 : decode prog_7_method_15_code 63 = .ok (.bipush 50, 2) := by decide +kernel
theorem d_mo_readPort_65 : decode prog_7_method_15_code 65 = .ok (.iastore, 1) := by decide +kernel
theorem d_mo_readPort_66 : decode prog_7_method_15_code 66 = .ok (.aload_n 0, 1) := by decide +kernel
theorem d_mo_readPort_67 : decode prog_7_method_15_code 67 = .ok (.iload_n 1, 1) := by decide +kernel
theorem d_mo_readPort_68 : decode prog_7_method_15_code 68 = .ok (.iconst 1, 1) := by decide +kernel
theorem d_mo_readPort_69 : decode prog_7_method_15_code 69 = .ok (.iadd, 1) := by decide +kernel
theorem d_mo_readPort_70 : decode prog_7_method_15_code 70 = .ok (.iconst 0, 1) := by decide +kernel
theorem d_mo_readPort_71 : decode prog_7_method_15_code 71 = .ok (.bipush 99, 2) := by decide +kernel
theorem d_mo_readPort_73 : decode prog_7_method_15_code 73 = .ok (.invokevirtual 118, 3) := by decide +kernel
theorem d_mo_readPort_76 : decode prog_7_method_15_code 76 = .ok (.istore_n 3, 1) := by decide +kernel
theorem d_mo_readPort_77 : decode prog_7_method_15_code 77 = .ok (.aload_n 0, 1) := by decide +kernel
theorem d_mo_readPort_78 : decode prog_7_method_15_code 78 = .ok (.getfield 47, 3) := by decide +kernel
theorem d_mo_readPort_81 : decode prog_7_method_15_code 81 = .ok (.aload_n 0, 1) := by decide +kernel
theorem d_mo_readPort_82 : decode prog_7_method_15_code 82 = .ok (.getfield 115, 3) := by decide +kernel
theorem d_mo_readPort_85 : decode prog_7_method_15_code 85 = .ok (.aload_n 0, 1) := by decide +kernel
theorem d_mo_readPort_86 : decode prog_7_method_15_code 86 = .ok (.getfield 112, 3) := by decide +kernel
theorem d_mo_readPort_89 : decode prog_7_method_15_code 89 = .ok (.iastore, 1) := by decide +kernel
theorem d_mo_readPort_90 : decode prog_7_method_15_code 90 = .ok (.aload_n 0, 1) := by decide +kernel
theorem d_mo_readPort_91 : decode prog_7_method_15_code 91 = .ok (.getfield 108, 3) := by decide +kernel
theorem d_mo_readPort_94 : decode prog_7_method_15_code 94 = .ok (.ifCond .ne 25, 3) := by decide +kernel
theorem d_mo_readPort_97 : decode prog_7_method_15_code 97 = .ok (.aload_n 0, 1) := by decide +kernel
theorem d_mo_readPort_98 : decode prog_7_method_15_code 98 = .ok (.iload_n 3, 1) := by decide +kernel
theorem d_mo_readPort_99 : decode prog_7_method_15_code 99 = .ok (.iconst 0, 1) := by decide +kernel
theorem d_mo_readPort_100 : decode prog_7_method_15_code 100 = .ok (.bipush 99, 2) := by decide +kernel
theorem d_mo_readPort_102 : decode prog_7_method_15_code 102 = .ok (.invokevirtual 118, 3) := by decide +kernel
theorem d_mo_readPort_105 : decode prog_7_method_15_code 105 = .ok (.istore_n 3, 1) := by decide +kernel
theorem d_mo_readPort_106 : decode prog_7_method_15_code 106 = .ok (.aload_n 0, 1) := by decide +kernel
theorem d_mo_readPort_107 : decode prog_7_method_15_code 107 = .ok (.getfield 50, 3) := by decide +kernel
theorem d_mo_readPort_110 : decode prog_7_method_15_code 110 = .ok (.aload_n 0, 1) := by decide +kernel
theorem d_mo_readPort_111 : decode prog_7_method_15_code 111 = .ok (.getfield 115, 3) := by decide +kernel
theorem d_mo_readPort_114 : decode prog_7_method_15_code 114 = .ok (.aload_n 0, 1) := by decide +kernel
theorem d_mo_readPort_115 : decode prog_7_method_15_code 115 = .ok (.getfield 112, 3) := by decide +kernel
theorem d_mo_readPort_118 : decode prog_7_method_15_code 118 = .ok (.iastore, 1) := by decide +kernel
theorem d_mo_readPort_119 : decode prog_7_method_15_code 119 = .ok (.aload_n 0, 1) := by decide +kernel
theorem d_mo_readPort_120 : decode prog_7_method_15_code 120 = .ok (.getfield 108, 3) := by decide +kernel
theorem d_mo_readPort_123 : decode prog_7_method_15_code 123 = .ok (.ifCond .ne 30, 3) := by decide +kernel
theorem d_mo_readPort_126 : decode prog_7_method_15_code 126 = .ok (.iload_n 2, 1) := by decide +kernel
theorem d_mo_readPort_127 : decode prog_7_method_15_code 127 = .ok (.iconst 3, 1) := by decide +kernel
theorem d_mo_readPort_128 : decode prog_7_method_15_code 128 = .ok (.if_icmp .ne 25, 3) := by decide +kernel
theorem d_mo_readPort_131 : decode prog_7_method_15_code 131 = .ok (.aload_n 0, 1) := by decide +kernel
theorem d_mo_readPort_132 : decode prog_7_method_15_code 132 = .ok (.iload_n 3, 1) := by decide +kernel
theorem d_mo_readPort_133 : decode prog_7_method_15_code 133 = .ok (.iconst 0, 1) := by decide +kernel
theorem d_mo_readPort_134 : decode prog_7_method_15_code 134 = .ok (.bipush 99, 2) := by decide +kernel
theorem d_mo_readPort_136 : decode prog_7_method_15_code 136 = .ok (.invokevirtual 118, 3) := by decide +kernel
theorem d_mo_readPort_139 : decode prog_7_method_15_code 139 = .ok (.istore_n 3, 1) := by decide +kernel
theorem d_mo_readPort_140 : decode prog_7_method_15_code 140 = .ok (.aload_n 0, 1) := by decide +kernel
theorem d_mo_readPort_141 : decode prog_7_method_15_code 141 = .ok (.getfield 53, 3) := by decide +kernel
theorem d_mo_readPort_144 : decode prog_7_method_15_code 144 = .ok (.aload_n 0, 1) := by decide +kernel
theorem d_mo_readPort_145 : decode prog_7_method_15_code 145 = .ok (.getfield 115, 3) := by decide +kernel
theorem d_mo_readPort_148 : decode prog_7_method_15_code 148 = .ok (.aload_n 0, 1) := by decide +kernel
theorem d_mo_readPort_149 : decode prog_7_method_15_code 149 = .ok (.getfield 112, 3) := by decide +kernel
theorem d_mo_readPort_152 : decode prog_7_method_15_code 152 = .ok (.iastore, 1) := by decide +kernel
theorem d_mo_readPort_153 : decode prog_7_method_15_code 153 = .ok (.aload_n 0, 1) := by decide +kernel
theorem d_mo_readPort_154 : decode prog_7_method_15_code 154 = .ok (.getfield 108, 3) := by decide +kernel
theorem d_mo_readPort_157 : decode prog_7_method_15_code 157 = .ok (.ifCond .ne 50, 3) := by decide +kernel
theorem d_mo_readPort_160 : decode prog_7_method_15_code 160 = .ok (.iload_n 2, 1) := by decide +kernel
theorem d_mo_readPort_161 : decode prog_7_method_15_code 161 = .ok (.iconst 3, 1) := by decide +kernel
theorem d_mo_readPort_162 : decode prog_7_method_15_code 162 = .ok (.if_icmp .eq 45, 3) := by decide +kernel
theorem d_mo_readPort_165 : decode prog_7_method_15_code 165 = .ok (.aload_n 0, 1) := by decide +kernel
theorem d_mo_readPort_166 : decode prog_7_method_15_code 166 = .ok (.getfield 56, 3) := by decide +kernel
theorem d_mo_readPort_169 : decode prog_7_method_15_code 169 = .ok (.aload_n 0, 1) := by decide +kernel
theorem d_mo_readPort_170 : decode prog_7_method_15_code 170 = .ok (.getfield 115, 3) := by decide +kernel
theorem d_mo_readPort_173 : decode prog_7_method_15_code 173 = .ok (.iaload, 1) := by decide +kernel
theorem d_mo_readPort_174 : decode prog_7_method_15_code 174 = .ok (.iconst 3, 1) := by decide +kernel
theorem d_mo_readPort_175 : decode prog_7_method_15_code 175 = .ok (.if_icmp .ge 32, 3) := by decide +kernel
theorem d_mo_readPort_178 : decode prog_7_method_15_code 178 = .ok (.aload_n 0, 1) := by decide +kernel
theorem d_mo_readPort_179 : decode prog_7_method_15_code 179 = .ok (.getfield 56, 3) := by decide +kernel
theorem d_mo_readPort_182 : decode prog_7_method_15_code 182 = .ok (.aload_n 0, 1) := by decide +kernel
theorem d_mo_readPort_183 : decode prog_7_method_15_code 183 = .ok (.getfield 115, 3) := by decide +kernel
theorem d_mo_readPort_186 : decode prog_7_method_15_code 186 = .ok (.iaload, 1) := by decide +kernel
theorem d_mo_readPort_187 : decode prog_7_method_15_code 187 = .ok (.ifCond .eq 11, 3) := by decide +kernel
theorem d_mo_readPort_190 : decode prog_7_method_15_code 190 = .ok (.aload_n 0, 1) := by decide +kernel
theorem d_mo_readPort_191 : decode prog_7_method_15_code 191 = .ok (.iload_n 3, 1) := by decide +kernel
theorem d_mo_readPort_192 : decode prog_7_method_15_code 192 = .ok (.invokevirtual 104, 3) := by decide +kernel
theorem d_mo_readPort_195 : decode prog_7_method_15_code 195 = .ok (.ifCond .eq 12, 3) := by decide +kernel
theorem d_mo_readPort_198 : decode prog_7_method_15_code 198 = .ok (.aload_n 0, 1) := by decide +kernel
theorem d_mo_readPort_199 : decode prog_7_method_15_code 199 = .ok (.iload_n 3, 1) := by decide +kernel
theorem d_mo_readPort_200 : decode prog_7_method_15_code 200 = .ok (.invokevirtual 125, 3) := by decide +kernel
theorem d_mo_readPort_203 : decode prog_7_method_15_code 203 = .ok (.istore_n 3, 1) := by decide +kernel
theorem d_mo_readPort_204 : decode prog_7_method_15_code 204 = .ok (.goto (-51), 3) := by decide +kernel
theorem d_mo_readPort_207 : decode prog_7_method_15_code 207 = .ok (.aload_n 0, 1) := by decide +kernel
theorem d_mo_readPort_208 : decode prog_7_method_15_code 208 = .ok (.dup, 1) := by decide +kernel
theorem d_mo_readPort_209 : decode prog_7_method_15_code 209 = .ok (.getfield 115, 3) := by decide +kernel
theorem d_mo_readPort_212 : decode prog_7_method_15_code 212 = .ok (.iconst 1, 1) := by decide +kernel
theorem d_mo_readPort_213 : decode prog_7_method_15_code 213 = .ok (.iadd, 1) := by decide +kernel
theorem d_mo_readPort_214 : decode prog_7_method_15_code 214 = .ok (.putfield 115, 3) := by decide +kernel
theorem d_mo_readPort_217 : decode prog_7_method_15_code 217 = .ok (.iload_n 3, 1) := by decide +kernel
theorem d_mo_readPort_218 : decode prog_7_method_15_code 218 = .ok (.ireturn, 1) := by decide +kernel
theorem d_mo_read_0 : decode prog_7_method_16_code 0 = .ok (.aload_n 0, 1) := by decide +kernel
theorem d_mo_read_1 : decode prog_7_method_16_code 1 = .ok (.iconst 0, 1) := by decide +kernel
theorem d_mo_read_2 : decode prog_7_method_16_code 2 = .ok (.putfield 128, 3) := by decide +kernel
theorem d_mo_read_5 : decode prog_7_method_16_code 5 = .ok (.aload_n 0, 1) := by decide +kernel
theorem d_mo_read_6 : decode prog_7_method_16_code 6 = .ok (.iconst 0, 1) := by decide +kernel
theorem d_mo_read_7 : decode prog_7_method_16_code 7 = .ok (.putfield 108, 3) := by decide +kernel
theorem d_mo_read_10 : decode prog_7_method_16_code 10 = .ok (.aload_n 0, 1) := by decide +kernel
theorem d_mo_read_11 : decode prog_7_method_16_code 11 = .ok (.iconst 0, 1) := by decide +kernel
theorem d_mo_read_12 : decode prog_7_method_16_code 12 = .ok (.putfield 115, 3) := by decide +kernel
theorem d_mo_read_15 : decode prog_7_method_16_code 15 = .ok (.aload_n 0, 1) := by decide +kernel
theorem d_mo_read_16 : decode prog_7_method_16_code 16 = .ok (.iconst 0, 1) := by decide +kernel
theorem d_mo_read_17 : decode prog_7_method_16_code 17 = .ok (.invokevirtual 131, 3) := by decide +kernel
theorem d_mo_read_20 : decode prog_7_method_16_code 20 = .ok (.istore_n 1, 1) := by decide +kernel
theorem d_mo_read_21 : decode prog_7_method_16_code 21 = .ok (.aload_n 0, 1) := by decide +kernel
theorem d_mo_read_22 : decode prog_7_method_16_code 22 = .ok (.getfield 108, 3) := by decide +kernel
theorem d_mo_read_25 : decode prog_7_method_16_code 25 = .ok (.ifCond .ne 32, 3) := by decide +kernel
theorem d_mo_read_28 : decode prog_7_method_16_code 28 = .ok (.aload_n 0, 1) := by decide +kernel
theorem d_mo_read_29 : decode prog_7_method_16_code 29 = .ok (.getfield 115, 3) := by decide +kernel
theorem d_mo_read_32 : decode prog_7_method_16_code 32 = .ok (.iconst 4, 1) := by decide +kernel
theorem d_mo_read_33 : decode prog_7_method_16_code 33 = .ok (.if_icmp .ge 24, 3) := by decide +kernel
theorem d_mo_read_36 : decode prog_7_method_16_code 36 = .ok (.aload_n 0, 1) := by decide +kernel
theorem d_mo_read_37 : decode prog_7_method_16_code 37 = .ok (.iload_n 1, 1) := by decide +kernel
theorem d_mo_read_38 : decode prog_7_method_16_code 38 = .ok (.invokevirtual 101, 3) := by decide +kernel
theorem d_mo_read_41 : decode prog_7_method_16_code 41 = .ok (.bipush 44, 2) := by decide +kernel
theorem d_mo_read_43 : decode prog_7_method_16_code 43 = .ok (.if_icmp .ne 14, 3) := by decide +kernel
theorem d_mo_read_46 : decode prog_7_method_16_code 46 = .ok (.aload_n 0, 1) := by decide +kernel
theorem d_mo_read_47 : decode prog_7_method_16_code 47 = .ok (.iload_n 1, 1) := by decide +kernel
theorem d_mo_read_48 : decode prog_7_method_16_code 48 = .ok (.iconst 1, 1) := by decide +kernel
theorem d_mo_read_49 : decode prog_7_method_16_code 49 = .ok (.iadd, 1) := by decide +kernel
theorem d_mo_read_50 : decode prog_7_method_16_code 50 = .ok (.invokevirtual 131, 3) := by decide +kernel
theorem d_mo_read_53 : decode prog_7_method_16_code 53 = .ok (.istore_n 1, 1) := by decide +kernel
theorem d_mo_read_54 : decode prog_7_method_16_code 54 = .ok (.goto (-33), 3) := by decide +kernel
theorem d_mo_read_57 : decode prog_7_method_16_code 57 = .ok (.aload_n 0, 1) := by decide +kernel
theorem d_mo_read_58 : decode prog_7_method_16_code 58 = .ok (.aload_n 0, 1) := by decide +kernel
theorem d_mo_read_59 : decode prog_7_method_16_code 59 = .ok (.getfield 108, 3) := by decide +kernel
theorem d_mo_read_62 : decode prog_7_method_16_code 62 = .ok (.ifCond .ne 15, 3) := by decide +kernel
theorem d_mo_read_65 : decode prog_7_method_16_code 65 = .ok (.iload_n 1, 1) := by decide +kernel
theorem d_mo_read_66 : decode prog_7_method_16_code 66 = .ok (.aload_n 0, 1) := by decide +kernel
theorem d_mo_read_67 : decode prog_7_method_16_code 67 = .ok (.getfield 97, 3) := by decide +kernel
theorem d_mo_read_70 : decode prog_7_method_16_code 70 = .ok (.if_icmp .ne 7, 3) := by decide +kernel
theorem d_mo_read_73 : decode prog_7_method_16_code 73 = .ok (.iconst 1, 1) := by decide +kernel
theorem d_mo_read_74 : decode prog_7_method_16_code 74 = .ok (.goto 4, 3) := by decide +kernel
theorem d_mo_read_77 : decode prog_7_method_16_code 77 = .ok (.iconst 0, 1) := by decide +kernel
theorem d_mo_read_78 : decode prog_7_method_16_code 78 = .ok (.putfield 128, 3) := by decide +kernel
theorem d_mo_read_81 : decode prog_7_method_16_code 81 = .ok (.iload_n 1, 1) := by decide +kernel
theorem d_mo_read_82 : decode prog_7_method_16_code 82 = .ok (.ireturn, 1) := by decide +kernel
theorem d_mo_fault_0 : decode prog_7_method_17_code 0 = .ok (.aload_n 0, 1) := by decide +kernel
theorem d_mo_fault_1 : decode prog_7_method_17_code 1 = .ok (.invokevirtual 134, 3) := by decide +kernel
theorem d_mo_fault_4 : decode prog_7_method_17_code 4 = .ok (.ireturn, 1) := by decide +kernel
theorem d_mo_ports_0 : decode prog_7_method_18_code 0 = .ok (.aload_n 0, 1) := by decide +kernel
theorem d_mo_ports_1 : decode prog_7_method_18_code 1 = .ok (.invokevirtual 134, 3) := by decide +kernel
theorem d_mo_ports_4 : decode prog_7_method_18_code 4 = .ok (.pop, 1) := by decide +kernel
theorem d_mo_ports_5 : decode prog_7_method_18_code 5 = .ok (.aload_n 0, 1) := by decide +kernel
theorem d_mo_ports_6 : decode prog_7_method_18_code 6 = .ok (.getfield 128, 3) := by decide +kernel
theorem d_mo_ports_9 : decode prog_7_method_18_code 9 = .ok (.ifCond .ne 7, 3) := by decide +kernel
theorem d_mo_ports_12 : decode prog_7_method_18_code 12 = .ok (.sipush (-10103), 3) := by decide +kernel
theorem d_mo_ports_15 : decode prog_7_method_18_code 15 = .ok (.ireturn, 1) := by decide +kernel
theorem d_mo_ports_16 : decode prog_7_method_18_code 16 = .ok (.aload_n 0, 1) := by decide +kernel
theorem d_mo_ports_17 : decode prog_7_method_18_code 17 = .ok (.aload_n 0, 1) := by decide +kernel
theorem d_mo_ports_18 : decode prog_7_method_18_code 18 = .ok (.getfield 115, 3) := by decide +kernel
theorem d_mo_ports_21 : decode prog_7_method_18_code 21 = .ok (.putfield 138, 3) := by decide +kernel
theorem d_mo_ports_24 : decode prog_7_method_18_code 24 = .ok (.iconst 0, 1) := by decide +kernel
theorem d_mo_ports_25 : decode prog_7_method_18_code 25 = .ok (.istore_n 1, 1) := by decide +kernel
theorem d_mo_ports_26 : decode prog_7_method_18_code 26 = .ok (.iload_n 1, 1) := by decide +kernel
theorem d_mo_ports_27 : decode prog_7_method_18_code 27 = .ok (.aload_n 0, 1) := by decide +kernel
theorem d_mo_ports_28 : decode prog_7_method_18_code 28 = .ok (.getfield 138, 3) := by decide +kernel
theorem d_mo_ports_31 : decode prog_7_method_18_code 31 = .ok (.if_icmp .ge 69, 3) := by decide +kernel
theorem d_mo_ports_34 : decode prog_7_method_18_code 34 = .ok (.aload_n 0, 1) := by decide +kernel
theorem d_mo_ports_35 : decode prog_7_method_18_code 35 = .ok (.getfield 7, 3) := by decide +kernel
theorem d_mo_ports_38 : decode prog_7_method_18_code 38 = .ok (.iload_n 1, 1) := by decide +kernel
theorem d_mo_ports_39 : decode prog_7_method_18_code 39 = .ok (.aload_n 0, 1) := by decide +kernel
theorem d_mo_ports_40 : decode prog_7_method_18_code 40 = .ok (.getfield 44, 3) := by decide +kernel
theorem d_mo_ports_43 : decode prog_7_method_18_code 43 = .ok (.iload_n 1, 1) := by decide +kernel
theorem d_mo_ports_44 : decode prog_7_method_18_code 44 = .ok (.iaload, 1) := by decide +kernel
theorem d_mo_ports_45 : decode prog_7_method_18_code 45 = .ok (.iastore, 1) := by decide +kernel
theorem d_mo_ports_46 : decode prog_7_method_18_code 46 = .ok (.aload_n 0, 1) := by decide +kernel
theorem d_mo_ports_47 : decode prog_7_method_18_code 47 = .ok (.getfield 13, 3) := by decide +kernel
theorem d_mo_ports_50 : decode prog_7_method_18_code 50 = .ok (.iload_n 1, 1) := by decide +kernel
theorem d_mo_ports_51 : decode prog_7_method_18_code 51 = .ok (.aload_n 0, 1) := by decide +kernel
theorem d_mo_ports_52 : decode prog_7_method_18_code 52 = .ok (.getfield 47, 3) := by decide +kernel
theorem d_mo_ports_55 : decode prog_7_method_18_code 55 = .ok (.iload_n 1, 1) := by decide +kernel
theorem d_mo_ports_56 : decode prog_7_method_18_code 56 = .ok (.iaload, 1) := by decide +kernel
theorem d_mo_ports_57 : decode prog_7_method_18_code 57 = .ok (.iastore, 1) := by decide +kernel
theorem d_mo_ports_58 : decode prog_7_method_18_code 58 = .ok (.aload_n 0, 1) := by decide +kernel
theorem d_mo_ports_59 : decode prog_7_method_18_code 59 = .ok (.getfield 16, 3) := by decide +kernel
theorem d_mo_ports_62 : decode prog_7_method_18_code 62 = .ok (.iload_n 1, 1) := by decide +kernel
theorem d_mo_ports_63 : decode prog_7_method_18_code 63 = .ok (.aload_n 0, 1) := by decide +kernel
theorem d_mo_ports_64 : decode prog_7_method_18_code 64 = .ok (.getfield 50, 3) := by decide +kernel
theorem d_mo_ports_67 : decode prog_7_method_18_code 67 = .ok (.iload_n 1, 1) := by decide +kernel
theorem d_mo_ports_68 : decode prog_7_method_18_code 68 = .ok (.iaload, 1) := by decide +kernel
theorem d_mo_ports_69 : decode prog_7_method_18_code 69 = .ok (.iastore, 1) := by decide +kernel
theorem d_mo_ports_70 : decode prog_7_method_18_code 70 = .ok (.aload_n 0, 1) := by decide +kernel
theorem d_mo_ports_71 : decode prog_7_method_18_code 71 = .ok (.getfield 19, 3) := by decide +kernel
theorem d_mo_ports_74 : decode prog_7_method_18_code 74 = .ok (.iload_n 1, 1) := by decide +kernel
theorem d_mo_ports_75 : decode prog_7_method_18_code 75 = .ok (.aload_n 0, 1) := by decide +kernel
theorem d_mo_ports_76 : decode prog_7_method_18_code 76 = .ok (.getfield 53, 3) := by decide +kernel
theorem d_mo_ports_79 : decode prog_7_method_18_code 79 = .ok (.iload_n 1, 1) := by decide +kernel
theorem d_mo_ports_80 : decode prog_7_method_18_code 80 = .ok (.iaload, 1) := by decide +kernel
theorem d_mo_ports_81 : decode prog_7_method_18_code 81 = .ok (.iastore, 1) := by decide +kernel
theorem d_mo_ports_82 : decode prog_7_method_18_code 82 = .ok (.aload_n 0, 1) := by decide +kernel
theorem d_mo_ports_83 : decode prog_7_method_18_code 83 = .ok (.getfield 22, 3) := by decide +kernel
theorem d_mo_ports_86 : decode prog_7_method_18_code 86 = .ok (.iload_n 1, 1) := by decide +kernel
theorem d_mo_ports_87 : decode prog_7_method_18_code 87 = .ok (.aload_n 0, 1) := by decide +kernel
theorem d_mo_ports_88 : decode prog_7_method_18_code 88 = .ok (.getfield 56, 3) := by decide +kernel
theorem d_mo_ports_91 : decode prog_7_method_18_code 91 = .ok (.iload_n 1, 1) := by decide +kernel
theorem d_mo_ports_92 : decode prog_7_method_18_code 92 = .ok (.iaload, 1) := by decide +kernel
theorem d_mo_ports_93 : decode prog_7_method_18_code 93 = .ok (.iastore, 1) := by decide +kernel
theorem d_mo_ports_94 : decode prog_7_method_18_code 94 = .ok (.iinc 1 1, 3) := by decide +kernel
theorem d_mo_ports_97 : decode prog_7_method_18_code 97 = .ok (.goto (-71), 3) := by decide +kernel
theorem d_mo_ports_100 : decode prog_7_method_18_code 100 = .ok (.iconst 0, 1) := by decide +kernel
theorem d_mo_ports_101 : decode prog_7_method_18_code 101 = .ok (.istore_n 1, 1) := by decide +kernel
theorem d_mo_ports_102 : decode prog_7_method_18_code 102 = .ok (.iload_n 1, 1) := by decide +kernel
theorem d_mo_ports_103 : decode prog_7_method_18_code 103 = .ok (.bipush 36, 2) := by decide +kernel
theorem d_mo_ports_105 : decode prog_7_method_18_code 105 = .ok (.if_icmp .ge 21, 3) := by decide +kernel
theorem d_mo_ports_108 : decode prog_7_method_18_code 108 = .ok (.aload_n 0, 1) := by decide +kernel
theorem d_mo_ports_109 : decode prog_7_method_18_code 109 = .ok (.getfield 25, 3) := by decide +kernel
theorem d_mo_ports_112 : decode prog_7_method_18_code 112 = .ok (.iload_n 1, 1) := by decide +kernel
theorem d_mo_ports_113 : decode prog_7_method_18_code 113 = .ok (.aload_n 0, 1) := by decide +kernel
theorem d_mo_ports_114 : decode prog_7_method_18_code 114 = .ok (.getfield 59, 3) := by decide +kernel
theorem d_mo_ports_117 : decode prog_7_method_18_code 117 = .ok (.iload_n 1, 1) := by decide +kernel
theorem d_mo_ports_118 : decode prog_7_method_18_code 118 = .ok (.iaload, 1) := by decide +kernel
theorem d_mo_ports_119 : decode prog_7_method_18_code 119 = .ok (.iastore, 1) := by decide +kernel
theorem d_mo_ports_120 : decode prog_7_method_18_code 120 = .ok (.iinc 1 1, 3) := by decide +kernel
theorem d_mo_ports_123 : decode prog_7_method_18_code 123 = .ok (.goto (-21), 3) := by decide +kernel
theorem d_mo_ports_126 : decode prog_7_method_18_code 126 = .ok (.aload_n 0, 1) := by decide +kernel
theorem d_mo_ports_127 : decode prog_7_method_18_code 127 = .ok (.dup, 1) := by decide +kernel
theorem d_mo_ports_128 : decode prog_7_method_18_code 128 = .ok (.getfield 141, 3) := by decide +kernel
theorem d_mo_ports_131 : decode prog_7_method_18_code 131 = .ok (.iconst 1, 1) := by decide +kernel
theorem d_mo_ports_132 : decode prog_7_method_18_code 132 = .ok (.iadd, 1) := by decide +kernel
theorem d_mo_ports_133 : decode prog_7_method_18_code 133 = .ok (.putfield 141, 3) := by decide +kernel
theorem d_mo_ports_136 : decode prog_7_method_18_code 136 = .ok (.aload_n 0, 1) := by decide +kernel
theorem d_mo_ports_137 : decode prog_7_method_18_code 137 = .ok (.iconst 0, 1) := by decide +kernel
theorem d_mo_ports_138 : decode prog_7_method_18_code 138 = .ok (.putfield 144, 3) := by decide +kernel
theorem d_mo_ports_141 : decode prog_7_method_18_code 141 = .ok (.aload_n 0, 1) := by decide +kernel
theorem d_mo_ports_142 : decode prog_7_method_18_code 142 = .ok (.iconst 0, 1) := by decide +kernel
theorem d_mo_ports_143 : decode prog_7_method_18_code 143 = .ok (.putfield 97, 3) := by decide +kernel
theorem d_mo_ports_146 : decode prog_7_method_18_code 146 = .ok (.aload_n 0, 1) := by decide +kernel
theorem d_mo_ports_147 : decode prog_7_method_18_code 147 = .ok (.getfield 138, 3) := by decide +kernel
theorem d_mo_ports_150 : decode prog_7_method_18_code 150 = .ok (.ireturn, 1) := by decide +kernel
theorem d_mo_isPort_0 : decode prog_7_method_19_code 0 = .ok (.iload_n 1, 1) := by decide +kernel
theorem d_mo_isPort_1 : decode prog_7_method_19_code 1 = .ok (.iconst 0, 1) := by decide +kernel
theorem d_mo_isPort_2 : decode prog_7_method_19_code 2 = .ok (.aload_n 0, 1) := by decide +kernel
theorem d_mo_isPort_3 : decode prog_7_method_19_code 3 = .ok (.getfield 138, 3) := by decide +kernel
theorem d_mo_isPort_6 : decode prog_7_method_19_code 6 = .ok (.iconst 1, 1) := by decide +kernel
theorem d_mo_isPort_7 : decode prog_7_method_19_code 7 = .ok (.isub, 1) := by decide +kernel
theorem d_mo_isPort_8 : decode prog_7_method_19_code 8 = .ok (.invokestatic 93, 3) := by decide +kernel
theorem d_mo_isPort_11 : decode prog_7_method_19_code 11 = .ok (.ireturn, 1) := by decide +kernel
theorem d_mo_isWave_0 : decode prog_7_method_20_code 0 = .ok (.aload_n 0, 1) := by decide +kernel
theorem d_mo_isWave_1 : decode prog_7_method_20_code 1 = .ok (.iload_n 1, 1) := by decide +kernel
theorem d_mo_isWave_2 : decode prog_7_method_20_code 2 = .ok (.invokevirtual 147, 3) := by decide +kernel
theorem d_mo_isWave_5 : decode prog_7_method_20_code 5 = .ok (.ifCond .eq 23, 3) := by decide +kernel
theorem d_mo_isWave_8 : decode prog_7_method_20_code 8 = .ok (.iload_n 2, 1) := by decide +kernel
theorem d_mo_isWave_9 : decode prog_7_method_20_code 9 = .ok (.iconst 0, 1) := by decide +kernel
theorem d_mo_isWave_10 : decode prog_7_method_20_code 10 = .ok (.aload_n 0, 1) := by decide +kernel
theorem d_mo_isWave_11 : decode prog_7_method_20_code 11 = .ok (.getfield 22, 3) := by decide +kernel
theorem d_mo_isWave_14 : decode prog_7_method_20_code 14 = .ok (.iload_n 1, 1) := by decide +kernel
theorem d_mo_isWave_15 : decode prog_7_method_20_code 15 = .ok (.iaload, 1) := by decide +kernel
theorem d_mo_isWave_16 : decode prog_7_method_20_code 16 = .ok (.iconst 1, 1) := by decide +kernel
theorem d_mo_isWave_17 : decode prog_7_method_20_code 17 = .ok (.isub, 1) := by decide +kernel
theorem d_mo_isWave_18 : decode prog_7_method_20_code 18 = .ok (.invokestatic 93, 3) := by decide +kernel
theorem d_mo_isWave_21 : decode prog_7_method_20_code 21 = .ok (.ifCond .eq 7, 3) := by decide +kernel
theorem d_mo_isWave_24 : decode prog_7_method_20_code 24 = .ok (.iconst 1, 1) := by decide +kernel
theorem d_mo_isWave_25 : decode prog_7_method_20_code 25 = .ok (.goto 4, 3) := by decide +kernel
theorem d_mo_isWave_28 : decode prog_7_method_20_code 28 = .ok (.iconst 0, 1) := by decide +kernel
theorem d_mo_isWave_29 : decode prog_7_method_20_code 29 = .ok (.ireturn, 1) := by decide +kernel
theorem d_mo_isNumber_0 : decode prog_7_method_21_code 0 = .ok (.iload_n 0, 1) := by decide +kernel
theorem d_mo_isNumber_1 : decode prog_7_method_21_code 1 = .ok (.iconst 0, 1) := by decide +kernel
theorem d_mo_isNumber_2 : decode prog_7_method_21_code 2 = .ok (.bipush 99, 2) := by decide +kernel
theorem d_mo_isNumber_4 : decode prog_7_method_21_code 4 = .ok (.invokestatic 93, 3) := by decide +kernel
theorem d_mo_isNumber_7 : decode prog_7_method_21_code 7 = .ok (.ireturn, 1) := by decide +kernel
theorem d_mo_portNow_0 : decode prog_7_method_22_code 0 = .ok (.iload_n 2, 1) := by decide +kernel
theorem d_mo_portNow_1 : decode prog_7_method_22_code 1 = .ok (.tableswitch 80 0 5 #[39, 46, 53, 60, 67, 74], 39) := by decide +kernel
theorem d_mo_portNow_40 : decode prog_7_method_22_code 40 = .ok (.aload_n 0, 1) := by decide +kernel
theorem d_mo_portNow_41 : decode prog_7_method_22_code 41 = .ok (.getfield 7, 3) := by decide +kernel
theorem d_mo_portNow_44 : decode prog_7_method_22_code 44 = .ok (.iload_n 1, 1) := by decide +kernel
theorem d_mo_portNow_45 : decode prog_7_method_22_code 45 = .ok (.iaload, 1) := by decide +kernel
theorem d_mo_portNow_46 : decode prog_7_method_22_code 46 = .ok (.ireturn, 1) := by decide +kernel
theorem d_mo_portNow_47 : decode prog_7_method_22_code 47 = .ok (.aload_n 0, 1) := by decide +kernel
theorem d_mo_portNow_48 : decode prog_7_method_22_code 48 = .ok (.getfield 13, 3) := by decide +kernel
theorem d_mo_portNow_51 : decode prog_7_method_22_code 51 = .ok (.iload_n 1, 1) := by decide +kernel
theorem d_mo_portNow_52 : decode prog_7_method_22_code 52 = .ok (.iaload, 1) := by decide +kernel
theorem d_mo_portNow_53 : decode prog_7_method_22_code 53 = .ok (.ireturn, 1) := by decide +kernel
theorem d_mo_portNow_54 : decode prog_7_method_22_code 54 = .ok (.aload_n 0, 1) := by decide +kernel
theorem d_mo_portNow_55 : decode prog_7_method_22_code 55 = .ok (.getfield 16, 3) := by decide +kernel
theorem d_mo_portNow_58 : decode prog_7_method_22_code 58 = .ok (.iload_n 1, 1) := by decide +kernel
theorem d_mo_portNow_59 : decode prog_7_method_22_code 59 = .ok (.iaload, 1) := by decide +kernel
theorem d_mo_portNow_60 : decode prog_7_method_22_code 60 = .ok (.ireturn, 1) := by decide +kernel
theorem d_mo_portNow_61 : decode prog_7_method_22_code 61 = .ok (.aload_n 0, 1) := by decide +kernel
theorem d_mo_portNow_62 : decode prog_7_method_22_code 62 = .ok (.getfield 19, 3) := by decide +kernel
theorem d_mo_portNow_65 : decode prog_7_method_22_code 65 = .ok (.iload_n 1, 1) := by decide +kernel
theorem d_mo_portNow_66 : decode prog_7_method_22_code 66 = .ok (.iaload, 1) := by decide +kernel
theorem d_mo_portNow_67 : decode prog_7_method_22_code 67 = .ok (.ireturn, 1) := by decide +kernel
theorem d_mo_portNow_68 : decode prog_7_method_22_code 68 = .ok (.aload_n 0, 1) := by decide +kernel
theorem d_mo_portNow_69 : decode prog_7_method_22_code 69 = .ok (.getfield 22, 3) := by decide +kernel
theorem d_mo_portNow_72 : decode prog_7_method_22_code 72 = .ok (.iload_n 1, 1) := by decide +kernel
theorem d_mo_portNow_73 : decode prog_7_method_22_code 73 = .ok (.iaload, 1) := by decide +kernel
theorem d_mo_portNow_74 : decode prog_7_method_22_code 74 = .ok (.ireturn, 1) := by decide +kernel
theorem d_mo_portNow_75 : decode prog_7_method_22_code 75 = .ok (.aload_n 0, 1) := by decide +kernel
theorem d_mo_portNow_76 : decode prog_7_method_22_code 76 = .ok (.iload_n 1, 1) := by decide +kernel
theorem d_mo_portNow_77 : decode prog_7_method_22_code 77 = .ok (.invokevirtual 150, 3) := by decide +kernel
theorem d_mo_portNow_80 : decode prog_7_method_22_code 80 = .ok (.ireturn, 1) := by decide +kernel
theorem d_mo_portNow_81 : decode prog_7_method_22_code 81 = .ok (.aload_n 0, 1) := by decide +kernel
theorem d_mo_portNow_82 : decode prog_7_method_22_code 82 = .ok (.iload_n 1, 1) := by decide +kernel
theorem d_mo_portNow_83 : decode prog_7_method_22_code 83 = .ok (.invokevirtual 153, 3) := by decide +kernel
theorem d_mo_portNow_86 : decode prog_7_method_22_code 86 = .ok (.ireturn, 1) := by decide +kernel
theorem d_mo_port_0 : decode prog_7_method_23_code 0 = .ok (.aload_n 0, 1) := by decide +kernel
theorem d_mo_port_1 : decode prog_7_method_23_code 1 = .ok (.iload_n 1, 1) := by decide +kernel
theorem d_mo_port_2 : decode prog_7_method_23_code 2 = .ok (.invokevirtual 147, 3) := by decide +kernel
theorem d_mo_port_5 : decode prog_7_method_23_code 5 = .ok (.ifCond .ne 9, 3) := by decide +kernel
theorem d_mo_port_8 : decode prog_7_method_23_code 8 = .ok (.sipush (-10101), 3) := by decide +kernel
theorem d_mo_port_11 : decode prog_7_method_23_code 11 = .ok (.goto 25, 3) := by decide +kernel
theorem d_mo_port_14 : decode prog_7_method_23_code 14 = .ok (.iload_n 2, 1) := by decide +kernel
theorem d_mo_port_15 : decode prog_7_method_23_code 15 = .ok (.iconst 0, 1) := by decide +kernel
theorem d_mo_port_16 : decode prog_7_method_23_code 16 = .ok (.bipush 6, 2) := by decide +kernel
theorem d_mo_port_18 : decode prog_7_method_23_code 18 = .ok (.invokestatic 93, 3) := by decide +kernel
theorem d_mo_port_21 : decode prog_7_method_23_code 21 = .ok (.ifCond .eq 12, 3) := by decide +kernel
theorem d_mo_port_24 : decode prog_7_method_23_code 24 = .ok (.aload_n 0, 1) := by decide +kernel
theorem d_mo_port_25 : decode prog_7_method_23_code 25 = .ok (.iload_n 1, 1) := by decide +kernel
theorem d_mo_port_26 : decode prog_7_method_23_code 26 = .ok (.iload_n 2, 1) := by decide +kernel
theorem d_mo_port_27 : decode prog_7_method_23_code 27 = .ok (.invokevirtual 156, 3) := by decide +kernel
theorem d_mo_port_30 : decode prog_7_method_23_code 30 = .ok (.goto 6, 3) := by decide +kernel
theorem d_mo_port_33 : decode prog_7_method_23_code 33 = .ok (.sipush (-10102), 3) := by decide +kernel
theorem d_mo_port_36 : decode prog_7_method_23_code 36 = .ok (.ireturn, 1) := by decide +kernel
theorem d_mo_waveNow_0 : decode prog_7_method_24_code 0 = .ok (.aload_n 0, 1) := by decide +kernel
theorem d_mo_waveNow_1 : decode prog_7_method_24_code 1 = .ok (.getfield 25, 3) := by decide +kernel
theorem d_mo_waveNow_4 : decode prog_7_method_24_code 4 = .ok (.bipush 9, 2) := by decide +kernel
theorem d_mo_waveNow_6 : decode prog_7_method_24_code 6 = .ok (.iload_n 1, 1) := by decide +kernel
theorem d_mo_waveNow_7 : decode prog_7_method_24_code 7 = .ok (.imul, 1) := by decide +kernel
theorem d_mo_waveNow_8 : decode prog_7_method_24_code 8 = .ok (.iconst 3, 1) := by decide +kernel
theorem d_mo_waveNow_9 : decode prog_7_method_24_code 9 = .ok (.iload_n 2, 1) := by decide +kernel
theorem d_mo_waveNow_10 : decode prog_7_method_24_code 10 = .ok (.imul, 1) := by decide +kernel
theorem d_mo_waveNow_11 : decode prog_7_method_24_code 11 = .ok (.iadd, 1) := by decide +kernel
theorem d_mo_waveNow_12 : decode prog_7_method_24_code 12 = .ok (.iload_n 3, 1) := by decide +kernel
theorem d_mo_waveNow_13 : decode prog_7_method_24_code 13 = .ok (.iadd, 1) := by decide +kernel
theorem d_mo_waveNow_14 : decode prog_7_method_24_code 14 = .ok (.iaload, 1) := by decide +kernel
theorem d_mo_waveNow_15 : decode prog_7_method_24_code 15 = .ok (.ireturn, 1) := by decide +kernel
theorem d_mo_wave_0 : decode prog_7_method_25_code 0 = .ok (.aload_n 0, 1) := by decide +kernel
theorem d_mo_wave_1 : decode prog_7_method_25_code 1 = .ok (.iload_n 1, 1) := by decide +kernel
theorem d_mo_wave_2 : decode prog_7_method_25_code 2 = .ok (.iload_n 2, 1) := by decide +kernel
theorem d_mo_wave_3 : decode prog_7_method_25_code 3 = .ok (.invokevirtual 160, 3) := by decide +kernel
theorem d_mo_wave_6 : decode prog_7_method_25_code 6 = .ok (.ifCond .ne 9, 3) := by decide +kernel
theorem d_mo_wave_9 : decode prog_7_method_25_code 9 = .ok (.sipush (-10101), 3) := by decide +kernel
theorem d_mo_wave_12 : decode prog_7_method_25_code 12 = .ok (.goto 25, 3) := by decide +kernel
theorem d_mo_wave_15 : decode prog_7_method_25_code 15 = .ok (.iload_n 3, 1) := by decide +kernel
theorem d_mo_wave_16 : decode prog_7_method_25_code 16 = .ok (.iconst 0, 1) := by decide +kernel
theorem d_mo_wave_17 : decode prog_7_method_25_code 17 = .ok (.iconst 2, 1) := by decide +kernel
theorem d_mo_wave_18 : decode prog_7_method_25_code 18 = .ok (.invokestatic 93, 3) := by decide +kernel
theorem d_mo_wave_21 : decode prog_7_method_25_code 21 = .ok (.ifCond .eq 13, 3) := by decide +kernel
theorem d_mo_wave_24 : decode prog_7_method_25_code 24 = .ok (.aload_n 0, 1) := by decide +kernel
theorem d_mo_wave_25 : decode prog_7_method_25_code 25 = .ok (.iload_n 1, 1) := by decide +kernel
theorem d_mo_wave_26 : decode prog_7_method_25_code 26 = .ok (.iload_n 2, 1) := by decide +kernel
theorem d_mo_wave_27 : decode prog_7_method_25_code 27 = .ok (.iload_n 3, 1) := by decide +kernel
theorem d_mo_wave_28 : decode prog_7_method_25_code 28 = .ok (.invokevirtual 164, 3) := by decide +kernel
theorem d_mo_wave_31 : decode prog_7_method_25_code 31 = .ok (.goto 6, 3) := by decide +kernel
theorem d_mo_wave_34 : decode prog_7_method_25_code 34 = .ok (.sipush (-10102), 3) := by decide +kernel
theorem d_mo_wave_37 : decode prog_7_method_25_code 37 = .ok (.ireturn, 1) := by decide +kernel
theorem d_mo_as_0 : decode prog_7_method_26_code 0 = .ok (.aload_n 0, 1) := by decide +kernel
theorem d_mo_as_1 : decode prog_7_method_26_code 1 = .ok (.iload_n 1, 1) := by decide +kernel
theorem d_mo_as_2 : decode prog_7_method_26_code 2 = .ok (.invokevirtual 147, 3) := by decide +kernel
theorem d_mo_as_5 : decode prog_7_method_26_code 5 = .ok (.ifCond .ne 7, 3) := by decide +kernel
theorem d_mo_as_8 : decode prog_7_method_26_code 8 = .ok (.sipush (-10101), 3) := by decide +kernel
theorem d_mo_as_11 : decode prog_7_method_26_code 11 = .ok (.ireturn, 1) := by decide +kernel
theorem d_mo_as_12 : decode prog_7_method_26_code 12 = .ok (.iload_n 2, 1) := by decide +kernel
theorem d_mo_as_13 : decode prog_7_method_26_code 13 = .ok (.iconst 0, 1) := by decide +kernel
theorem d_mo_as_14 : decode prog_7_method_26_code 14 = .ok (.iconst 4, 1) := by decide +kernel
theorem d_mo_as_15 : decode prog_7_method_26_code 15 = .ok (.invokestatic 93, 3) := by decide +kernel
theorem d_mo_as_18 : decode prog_7_method_26_code 18 = .ok (.ifCond .ne 7, 3) := by decide +kernel
theorem d_mo_as_21 : decode prog_7_method_26_code 21 = .ok (.sipush (-10102), 3) := by decide +kernel
theorem d_mo_as_24 : decode prog_7_method_26_code 24 = .ok (.ireturn, 1) := by decide +kernel
theorem d_mo_as_25 : decode prog_7_method_26_code 25 = .ok (.aload_n 0, 1) := by decide +kernel
theorem d_mo_as_26 : decode prog_7_method_26_code 26 = .ok (.getfield 7, 3) := by decide +kernel
theorem d_mo_as_29 : decode prog_7_method_26_code 29 = .ok (.iload_n 1, 1) := by decide +kernel
theorem d_mo_as_30 : decode prog_7_method_26_code 30 = .ok (.iaload, 1) := by decide +kernel
theorem d_mo_as_31 : decode prog_7_method_26_code 31 = .ok (.istore_n 3, 1) := by decide +kernel
theorem d_mo_as_32 : decode prog_7_method_26_code 32 = .ok (.iload_n 2, 1) := by decide +kernel
theorem d_mo_as_33 : decode prog_7_method_26_code 33 = .ok (.ifCond .eq 18, 3) := by decide +kernel
theorem d_mo_as_36 : decode prog_7_method_26_code 36 = .ok (.iload_n 3, 1) := by decide +kernel
theorem d_mo_as_37 : decode prog_7_method_26_code 37 = .ok (.iload_n 2, 1) := by decide +kernel
theorem d_mo_as_38 : decode prog_7_method_26_code 38 = .ok (.if_icmp .eq 13, 3) := by decide +kernel
theorem d_mo_as_41 : decode prog_7_method_26_code 41 = .ok (.iload_n 2, 1) := by decide +kernel
theorem d_mo_as_42 : decode prog_7_method_26_code 42 = .ok (.iconst 1, 1) := by decide +kernel
theorem d_mo_as_43 : decode prog_7_method_26_code 43 = .ok (.if_icmp .ne 12, 3) := by decide +kernel
theorem d_mo_as_46 : decode prog_7_method_26_code 46 = .ok (.iload_n 3, 1) := by decide +kernel
theorem d_mo_as_47 : decode prog_7_method_26_code 47 = .ok (.iconst 2, 1) := by decide +kernel
theorem d_mo_as_48 : decode prog_7_method_26_code 48 = .ok (.if_icmp .ne 7, 3) := by decide +kernel
theorem d_mo_as_51 : decode prog_7_method_26_code 51 = .ok (.iload_n 1, 1) := by decide +kernel
theorem d_mo_as_52 : decode prog_7_method_26_code 52 = .ok (.goto 6, 3) := by decide +kernel
theorem d_mo_as_55 : decode prog_7_method_26_code 55 = .ok (.sipush (-10001), 3) := by decide +kernel
theorem d_mo_as_58 : decode prog_7_method_26_code 58 = .ok (.ireturn, 1) := by decide +kernel
theorem d_mo_round_0 : decode prog_7_method_27_code 0 = .ok (.iload_n 1, 1) := by decide +kernel
theorem d_mo_round_1 : decode prog_7_method_27_code 1 = .ok (.iconst 0, 1) := by decide +kernel
theorem d_mo_round_2 : decode prog_7_method_27_code 2 = .ok (.bipush 64, 2) := by decide +kernel
theorem d_mo_round_4 : decode prog_7_method_27_code 4 = .ok (.invokestatic 93, 3) := by decide +kernel
theorem d_mo_round_7 : decode prog_7_method_27_code 7 = .ok (.ifCond .eq 12, 3) := by decide +kernel
theorem d_mo_round_10 : decode prog_7_method_27_code 10 = .ok (.aload_n 0, 1) := by decide +kernel
theorem d_mo_round_11 : decode prog_7_method_27_code 11 = .ok (.getfield 28, 3) := by decide +kernel
theorem d_mo_round_14 : decode prog_7_method_27_code 14 = .ok (.iload_n 1, 1) := by decide +kernel
theorem d_mo_round_15 : decode prog_7_method_27_code 15 = .ok (.iaload, 1) := by decide +kernel
theorem d_mo_round_16 : decode prog_7_method_27_code 16 = .ok (.goto 6, 3) := by decide +kernel
theorem d_mo_round_19 : decode prog_7_method_27_code 19 = .ok (.sipush (-10102), 3) := by decide +kernel
theorem d_mo_round_22 : decode prog_7_method_27_code 22 = .ok (.ireturn, 1) := by decide +kernel
theorem d_mo_turnAt_0 : decode prog_7_method_28_code 0 = .ok (.iload_n 1, 1) := by decide +kernel
theorem d_mo_turnAt_1 : decode prog_7_method_28_code 1 = .ok (.bipush 16, 2) := by decide +kernel
theorem d_mo_turnAt_3 : decode prog_7_method_28_code 3 = .ok (.idiv, 1) := by decide +kernel
theorem d_mo_turnAt_4 : decode prog_7_method_28_code 4 = .ok (.istore_n 2, 1) := by decide +kernel
theorem d_mo_turnAt_5 : decode prog_7_method_28_code 5 = .ok (.iload_n 1, 1) := by decide +kernel
theorem d_mo_turnAt_6 : decode prog_7_method_28_code 6 = .ok (.bipush 16, 2) := by decide +kernel
theorem d_mo_turnAt_8 : decode prog_7_method_28_code 8 = .ok (.irem, 1) := by decide +kernel
theorem d_mo_turnAt_9 : decode prog_7_method_28_code 9 = .ok (.istore_n 3, 1) := by decide +kernel
theorem d_mo_turnAt_10 : decode prog_7_method_28_code 10 = .ok (.aload_n 0, 1) := by decide +kernel
theorem d_mo_turnAt_11 : decode prog_7_method_28_code 11 = .ok (.getfield 28, 3) := by decide +kernel
theorem d_mo_turnAt_14 : decode prog_7_method_28_code 14 = .ok (.iload_n 2, 1) := by decide +kernel
theorem d_mo_turnAt_15 : decode prog_7_method_28_code 15 = .ok (.iaload, 1) := by decide +kernel
theorem d_mo_turnAt_16 : decode prog_7_method_28_code 16 = .ok (.bipush 16, 2) := by decide +kernel
theorem d_mo_turnAt_18 : decode prog_7_method_28_code 18 = .ok (.iload_n 3, 1) := by decide +kernel
theorem d_mo_turnAt_19 : decode prog_7_method_28_code 19 = .ok (.isub, 1) := by decide +kernel
theorem d_mo_turnAt_20 : decode prog_7_method_28_code 20 = .ok (.imul, 1) := by decide +kernel
theorem d_mo_turnAt_21 : decode prog_7_method_28_code 21 = .ok (.aload_n 0, 1) := by decide +kernel
theorem d_mo_turnAt_22 : decode prog_7_method_28_code 22 = .ok (.getfield 28, 3) := by decide +kernel
theorem d_mo_turnAt_25 : decode prog_7_method_28_code 25 = .ok (.iload_n 2, 1) := by decide +kernel
theorem d_mo_turnAt_26 : decode prog_7_method_28_code 26 = .ok (.iconst 1, 1) := by decide +kernel
theorem d_mo_turnAt_27 : decode prog_7_method_28_code 27 = .ok (.iadd, 1) := by decide +kernel
theorem d_mo_turnAt_28 : decode prog_7_method_28_code 28 = .ok (.iaload, 1) := by decide +kernel
theorem d_mo_turnAt_29 : decode prog_7_method_28_code 29 = .ok (.iload_n 3, 1) := by decide +kernel
theorem d_mo_turnAt_30 : decode prog_7_method_28_code 30 = .ok (.imul, 1) := by decide +kernel
theorem d_mo_turnAt_31 : decode prog_7_method_28_code 31 = .ok (.iadd, 1) := by decide +kernel
theorem d_mo_turnAt_32 : decode prog_7_method_28_code 32 = .ok (.bipush 16, 2) := by decide +kernel
theorem d_mo_turnAt_34 : decode prog_7_method_28_code 34 = .ok (.invokestatic 167, 3) := by decide +kernel
theorem d_mo_turnAt_37 : decode prog_7_method_28_code 37 = .ok (.ireturn, 1) := by decide +kernel
theorem d_mo_sumAt_0 : decode prog_7_method_29_code 0 = .ok (.bipush 10, 2) := by decide +kernel
theorem d_mo_sumAt_2 : decode prog_7_method_29_code 2 = .ok (.aload_n 0, 1) := by decide +kernel
theorem d_mo_sumAt_3 : decode prog_7_method_29_code 3 = .ok (.getfield 13, 3) := by decide +kernel
theorem d_mo_sumAt_6 : decode prog_7_method_29_code 6 = .ok (.iload_n 1, 1) := by decide +kernel
theorem d_mo_sumAt_7 : decode prog_7_method_29_code 7 = .ok (.iaload, 1) := by decide +kernel
theorem d_mo_sumAt_8 : decode prog_7_method_29_code 8 = .ok (.imul, 1) := by decide +kernel
theorem d_mo_sumAt_9 : decode prog_7_method_29_code 9 = .ok (.istore_n 3, 1) := by decide +kernel
theorem d_mo_sumAt_10 : decode prog_7_method_29_code 10 = .ok (.iconst 0, 1) := by decide +kernel
theorem d_mo_sumAt_11 : decode prog_7_method_29_code 11 = .ok (.istore 4, 2) := by decide +kernel
theorem d_mo_sumAt_13 : decode prog_7_method_29_code 13 = .ok (.iload 4, 2) := by decide +kernel
theorem d_mo_sumAt_15 : decode prog_7_method_29_code 15 = .ok (.aload_n 0, 1) := by decide +kernel
theorem d_mo_sumAt_16 : decode prog_7_method_29_code 16 = .ok (.getfield 22, 3) := by decide +kernel
theorem d_mo_sumAt_19 : decode prog_7_method_29_code 19 = .ok (.iload_n 1, 1) := by decide +kernel
theorem d_mo_sumAt_20 : decode prog_7_method_29_code 20 = .ok (.iaload, 1) := by decide +kernel
theorem d_mo_sumAt_21 : decode prog_7_method_29_code 21 = .ok (.if_icmp .ge 72, 3) := by decide +kernel
theorem d_mo_sumAt_24 : decode prog_7_method_29_code 24 = .ok (.aload_n 0, 1) := by decide +kernel
theorem d_mo_sumAt_25 : decode prog_7_method_29_code 25 = .ok (.iload_n 1, 1) := by decide +kernel
theorem d_mo_sumAt_26 : decode prog_7_method_29_code 26 = .ok (.iload 4, 2) := by decide +kernel
theorem d_mo_sumAt_28 : decode prog_7_method_29_code 28 = .ok (.iconst 0, 1) := by decide +kernel
theorem d_mo_sumAt_29 : decode prog_7_method_29_code 29 = .ok (.invokevirtual 164, 3) := by decide +kernel
theorem d_mo_sumAt_32 : decode prog_7_method_29_code 32 = .ok (.iload_n 2, 1) := by decide +kernel
theorem d_mo_sumAt_33 : decode prog_7_method_29_code 33 = .ok (.imul, 1) := by decide +kernel
theorem d_mo_sumAt_34 : decode prog_7_method_29_code 34 = .ok (.bipush 16, 2) := by decide +kernel
theorem d_mo_sumAt_36 : decode prog_7_method_29_code 36 = .ok (.aload_n 0, 1) := by decide +kernel
theorem d_mo_sumAt_37 : decode prog_7_method_29_code 37 = .ok (.iload_n 1, 1) := by decide +kernel
theorem d_mo_sumAt_38 : decode prog_7_method_29_code 38 = .ok (.iload 4, 2) := by decide +kernel
theorem d_mo_sumAt_40 : decode prog_7_method_29_code 40 = .ok (.iconst 2, 1) := by decide +kernel
theorem d_mo_sumAt_41 : decode prog_7_method_29_code 41 = .ok (.invokevirtual 164, 3) := by decide +kernel
theorem d_mo_sumAt_44 : decode prog_7_method_29_code 44 = .ok (.imul, 1) := by decide +kernel
theorem d_mo_sumAt_45 : decode prog_7_method_29_code 45 = .ok (.iadd, 1) := by decide +kernel
theorem d_mo_sumAt_46 : decode prog_7_method_29_code 46 = .ok (.istore 5, 2) := by decide +kernel
theorem d_mo_sumAt_48 : decode prog_7_method_29_code 48 = .ok (.iload 5, 2) := by decide +kernel
theorem d_mo_sumAt_50 : decode prog_7_method_29_code 50 = .ok (.sipush 1024, 3) := by decide +kernel
theorem d_mo_sumAt_53 : decode prog_7_method_29_code 53 = .ok (.irem, 1) := by decide +kernel
theorem d_mo_sumAt_54 : decode prog_7_method_29_code 54 = .ok (.sipush 1024, 3) := by decide +kernel
theorem d_mo_sumAt_57 : decode prog_7_method_29_code 57 = .ok (.iadd, 1) := by decide +kernel
theorem d_mo_sumAt_58 : decode prog_7_method_29_code 58 = .ok (.sipush 1024, 3) := by decide +kernel
theorem d_mo_sumAt_61 : decode prog_7_method_29_code 61 = .ok (.irem, 1) := by decide +kernel
theorem d_mo_sumAt_62 : decode prog_7_method_29_code 62 = .ok (.istore 6, 2) := by decide +kernel
theorem d_mo_sumAt_64 : decode prog_7_method_29_code 64 = .ok (.iload_n 3, 1) := by decide +kernel
theorem d_mo_sumAt_65 : decode prog_7_method_29_code 65 = .ok (.aload_n 0, 1) := by decide +kernel
theorem d_mo_sumAt_66 : decode prog_7_method_29_code 66 = .ok (.iload_n 1, 1) := by decide +kernel
theorem d_mo_sumAt_67 : decode prog_7_method_29_code 67 = .ok (.iload 4, 2) := by decide +kernel
theorem d_mo_sumAt_69 : decode prog_7_method_29_code 69 = .ok (.iconst 1, 1) := by decide +kernel
theorem d_mo_sumAt_70 : decode prog_7_method_29_code 70 = .ok (.invokevirtual 164, 3) := by decide +kernel
theorem d_mo_sumAt_73 : decode prog_7_method_29_code 73 = .ok (.aload_n 0, 1) := by decide +kernel
theorem d_mo_sumAt_74 : decode prog_7_method_29_code 74 = .ok (.iload 6, 2) := by decide +kernel
theorem d_mo_sumAt_76 : decode prog_7_method_29_code 76 = .ok (.invokevirtual 170, 3) := by decide +kernel
theorem d_mo_sumAt_79 : decode prog_7_method_29_code 79 = .ok (.imul, 1) := by decide +kernel
theorem d_mo_sumAt_80 : decode prog_7_method_29_code 80 = .ok (.bipush 100, 2) := by decide +kernel
theorem d_mo_sumAt_82 : decode prog_7_method_29_code 82 = .ok (.invokestatic 167, 3) := by decide +kernel
theorem d_mo_sumAt_85 : decode prog_7_method_29_code 85 = .ok (.iadd, 1) := by decide +kernel
theorem d_mo_sumAt_86 : decode prog_7_method_29_code 86 = .ok (.istore_n 3, 1) := by decide +kernel
theorem d_mo_sumAt_87 : decode prog_7_method_29_code 87 = .ok (.iinc 4 1, 3) := by decide +kernel
theorem d_mo_sumAt_90 : decode prog_7_method_29_code 90 = .ok (.goto (-77), 3) := by decide +kernel
theorem d_mo_sumAt_93 : decode prog_7_method_29_code 93 = .ok (.iload_n 3, 1) := by decide +kernel
theorem d_mo_sumAt_94 : decode prog_7_method_29_code 94 = .ok (.ireturn, 1) := by decide +kernel
theorem d_mo_silled_0 : decode prog_7_method_30_code 0 = .ok (.aload_n 0, 1) := by decide +kernel
theorem d_mo_silled_1 : decode prog_7_method_30_code 1 = .ok (.iload_n 1, 1) := by decide +kernel
theorem d_mo_silled_2 : decode prog_7_method_30_code 2 = .ok (.iload_n 2, 1) := by decide +kernel
theorem d_mo_silled_3 : decode prog_7_method_30_code 3 = .ok (.invokevirtual 173, 3) := by decide +kernel
theorem d_mo_silled_6 : decode prog_7_method_30_code 6 = .ok (.istore_n 3, 1) := by decide +kernel
theorem d_mo_silled_7 : decode prog_7_method_30_code 7 = .ok (.iload_n 3, 1) := by decide +kernel
theorem d_mo_silled_8 : decode prog_7_method_30_code 8 = .ok (.bipush 10, 2) := by decide +kernel
theorem d_mo_silled_10 : decode prog_7_method_30_code 10 = .ok (.aload_n 0, 1) := by decide +kernel
theorem d_mo_silled_11 : decode prog_7_method_30_code 11 = .ok (.getfield 16, 3) := by decide +kernel
theorem d_mo_silled_14 : decode prog_7_method_30_code 14 = .ok (.iload_n 1, 1) := by decide +kernel
theorem d_mo_silled_15 : decode prog_7_method_30_code 15 = .ok (.iaload, 1) := by decide +kernel
theorem d_mo_silled_16 : decode prog_7_method_30_code 16 = .ok (.imul, 1) := by decide +kernel
theorem d_mo_silled_17 : decode prog_7_method_30_code 17 = .ok (.if_icmp .le 7, 3) := by decide +kernel
theorem d_mo_silled_20 : decode prog_7_method_30_code 20 = .ok (.iload_n 3, 1) := by decide +kernel
theorem d_mo_silled_21 : decode prog_7_method_30_code 21 = .ok (.goto 12, 3) := by decide +kernel
theorem d_mo_silled_24 : decode prog_7_method_30_code 24 = .ok (.bipush 10, 2) := by decide +kernel
theorem d_mo_silled_26 : decode prog_7_method_30_code 26 = .ok (.aload_n 0, 1) := by decide +kernel
theorem d_mo_silled_27 : decode prog_7_method_30_code 27 = .ok (.getfield 16, 3) := by decide +kernel
theorem d_mo_silled_30 : decode prog_7_method_30_code 30 = .ok (.iload_n 1, 1) := by decide +kernel
theorem d_mo_silled_31 : decode prog_7_method_30_code 31 = .ok (.iaload, 1) := by decide +kernel
theorem d_mo_silled_32 : decode prog_7_method_30_code 32 = .ok (.imul, 1) := by decide +kernel
theorem d_mo_silled_33 : decode prog_7_method_30_code 33 = .ok (.ireturn, 1) := by decide +kernel
theorem d_mo_ownHeight_0 : decode prog_7_method_31_code 0 = .ok (.aload_n 0, 1) := by decide +kernel
theorem d_mo_ownHeight_1 : decode prog_7_method_31_code 1 = .ok (.getfield 7, 3) := by decide +kernel
theorem d_mo_ownHeight_4 : decode prog_7_method_31_code 4 = .ok (.iload_n 1, 1) := by decide +kernel
theorem d_mo_ownHeight_5 : decode prog_7_method_31_code 5 = .ok (.iaload, 1) := by decide +kernel
theorem d_mo_ownHeight_6 : decode prog_7_method_31_code 6 = .ok (.tableswitch 117 1 4 #[30, 37, 117, 86], 30) := by decide +kernel
theorem d_mo_ownHeight_36 : decode prog_7_method_31_code 36 = .ok (.aload_n 0, 1) := by decide +kernel
theorem d_mo_ownHeight_37 : decode prog_7_method_31_code 37 = .ok (.iload_n 1, 1) := by decide +kernel
theorem d_mo_ownHeight_38 : decode prog_7_method_31_code 38 = .ok (.iload_n 2, 1) := by decide +kernel
theorem d_mo_ownHeight_39 : decode prog_7_method_31_code 39 = .ok (.invokevirtual 176, 3) := by decide +kernel
theorem d_mo_ownHeight_42 : decode prog_7_method_31_code 42 = .ok (.ireturn, 1) := by decide +kernel
theorem d_mo_ownHeight_43 : decode prog_7_method_31_code 43 = .ok (.aload_n 0, 1) := by decide +kernel
theorem d_mo_ownHeight_44 : decode prog_7_method_31_code 44 = .ok (.iload_n 1, 1) := by decide +kernel
theorem d_mo_ownHeight_45 : decode prog_7_method_31_code 45 = .ok (.iload_n 2, 1) := by decide +kernel
theorem d_mo_ownHeight_46 : decode prog_7_method_31_code 46 = .ok (.invokevirtual 176, 3) := by decide +kernel
theorem d_mo_ownHeight_49 : decode prog_7_method_31_code 49 = .ok (.istore_n 3, 1) := by decide +kernel
theorem d_mo_ownHeight_50 : decode prog_7_method_31_code 50 = .ok (.iconst 1, 1) := by decide +kernel
theorem d_mo_ownHeight_51 : decode prog_7_method_31_code 51 = .ok (.istore 4, 2) := by decide +kernel
theorem d_mo_ownHeight_53 : decode prog_7_method_31_code 53 = .ok (.iload 4, 2) := by decide +kernel
theorem d_mo_ownHeight_55 : decode prog_7_method_31_code 55 = .ok (.bipush 6, 2) := by decide +kernel
theorem d_mo_ownHeight_57 : decode prog_7_method_31_code 57 = .ok (.if_icmp .gt 33, 3) := by decide +kernel
theorem d_mo_ownHeight_60 : decode prog_7_method_31_code 60 = .ok (.aload_n 0, 1) := by decide +kernel
theorem d_mo_ownHeight_61 : decode prog_7_method_31_code 61 = .ok (.iload_n 1, 1) := by decide +kernel
theorem d_mo_ownHeight_62 : decode prog_7_method_31_code 62 = .ok (.iload_n 2, 1) := by decide +kernel
theorem d_mo_ownHeight_63 : decode prog_7_method_31_code 63 = .ok (.iload 4, 2) := by decide +kernel
theorem d_mo_ownHeight_65 : decode prog_7_method_31_code 65 = .ok (.isub, 1) := by decide +kernel
theorem d_mo_ownHeight_66 : decode prog_7_method_31_code 66 = .ok (.invokevirtual 176, 3) := by decide +kernel
theorem d_mo_ownHeight_69 : decode prog_7_method_31_code 69 = .ok (.istore 5, 2) := by decide +kernel
theorem d_mo_ownHeight_71 : decode prog_7_method_31_code 71 = .ok (.iload 5, 2) := by decide +kernel
theorem d_mo_ownHeight_73 : decode prog_7_method_31_code 73 = .ok (.iload_n 3, 1) := by decide +kernel
theorem d_mo_ownHeight_74 : decode prog_7_method_31_code 74 = .ok (.if_icmp .le 8, 3) := by decide +kernel
theorem d_mo_ownHeight_77 : decode prog_7_method_31_code 77 = .ok (.iload 5, 2) := by decide +kernel
theorem d_mo_ownHeight_79 : decode prog_7_method_31_code 79 = .ok (.goto 4, 3) := by decide +kernel
theorem d_mo_ownHeight_82 : decode prog_7_method_31_code 82 = .ok (.iload_n 3, 1) := by decide +kernel
theorem d_mo_ownHeight_83 : decode prog_7_method_31_code 83 = .ok (.istore_n 3, 1) := by decide +kernel
theorem d_mo_ownHeight_84 : decode prog_7_method_31_code 84 = .ok (.iinc 4 1, 3) := by decide +kernel
theorem d_mo_ownHeight_87 : decode prog_7_method_31_code 87 = .ok (.goto (-34), 3) := by decide +kernel
theorem d_mo_ownHeight_90 : decode prog_7_method_31_code 90 = .ok (.iload_n 3, 1) := by decide +kernel
theorem d_mo_ownHeight_91 : decode prog_7_method_31_code 91 = .ok (.ireturn, 1) := by decide +kernel
theorem d_mo_ownHeight_92 : decode prog_7_method_31_code 92 = .ok (.aload_n 0, 1) := by decide +kernel
theorem d_mo_ownHeight_93 : decode prog_7_method_31_code 93 = .ok (.iload_n 1, 1) := by decide +kernel
theorem d_mo_ownHeight_94 : decode prog_7_method_31_code 94 = .ok (.iload_n 2, 1) := by decide +kernel
theorem d_mo_ownHeight_95 : decode prog_7_method_31_code 95 = .ok (.invokevirtual 173, 3) := by decide +kernel
theorem d_mo_ownHeight_98 : decode prog_7_method_31_code 98 = .ok (.iload_n 2, 1) := by decide +kernel
theorem d_mo_ownHeight_99 : decode prog_7_method_31_code 99 = .ok (.sipush 144, 3) := by decide +kernel
theorem d_mo_ownHeight_102 : decode prog_7_method_31_code 102 = .ok (.invokestatic 167, 3) := by decide +kernel
theorem d_mo_ownHeight_105 : decode prog_7_method_31_code 105 = .ok (.iconst 1, 1) := by decide +kernel
theorem d_mo_ownHeight_106 : decode prog_7_method_31_code 106 = .ok (.iand, 1) := by decide +kernel
theorem d_mo_ownHeight_107 : decode prog_7_method_31_code 107 = .ok (.iconst 1, 1) := by decide +kernel
theorem d_mo_ownHeight_108 : decode prog_7_method_31_code 108 = .ok (.if_icmp .ne 12, 3) := by decide +kernel
theorem d_mo_ownHeight_111 : decode prog_7_method_31_code 111 = .ok (.aload_n 0, 1) := by decide +kernel
theorem d_mo_ownHeight_112 : decode prog_7_method_31_code 112 = .ok (.getfield 16, 3) := by decide +kernel
theorem d_mo_ownHeight_115 : decode prog_7_method_31_code 115 = .ok (.iload_n 1, 1) := by decide +kernel
theorem d_mo_ownHeight_116 : decode prog_7_method_31_code 116 = .ok (.iaload, 1) := by decide +kernel
theorem d_mo_ownHeight_117 : decode prog_7_method_31_code 117 = .ok (.goto 4, 3) := by decide +kernel
theorem d_mo_ownHeight_120 : decode prog_7_method_31_code 120 = .ok (.iconst 0, 1) := by decide +kernel
theorem d_mo_ownHeight_121 : decode prog_7_method_31_code 121 = .ok (.iadd, 1) := by decide +kernel
theorem d_mo_ownHeight_122 : decode prog_7_method_31_code 122 = .ok (.ireturn, 1) := by decide +kernel
theorem d_mo_ownHeight_123 : decode prog_7_method_31_code 123 = .ok (.aload_n 0, 1) := by decide +kernel
theorem d_mo_ownHeight_124 : decode prog_7_method_31_code 124 = .ok (.iload_n 1, 1) := by decide +kernel
theorem d_mo_ownHeight_125 : decode prog_7_method_31_code 125 = .ok (.iload_n 2, 1) := by decide +kernel
theorem d_mo_ownHeight_126 : decode prog_7_method_31_code 126 = .ok (.invokevirtual 173, 3) := by decide +kernel
theorem d_mo_ownHeight_129 : decode prog_7_method_31_code 129 = .ok (.ireturn, 1) := by decide +kernel
theorem d_mo_heightAt_0 : decode prog_7_method_32_code 0 = .ok (.aload_n 0, 1) := by decide +kernel
theorem d_mo_heightAt_1 : decode prog_7_method_32_code 1 = .ok (.getfield 7, 3) := by decide +kernel
theorem d_mo_heightAt_4 : decode prog_7_method_32_code 4 = .ok (.iload_n 1, 1) := by decide +kernel
theorem d_mo_heightAt_5 : decode prog_7_method_32_code 5 = .ok (.iaload, 1) := by decide +kernel
theorem d_mo_heightAt_6 : decode prog_7_method_32_code 6 = .ok (.iconst 3, 1) := by decide +kernel
theorem d_mo_heightAt_7 : decode prog_7_method_32_code 7 = .ok (.if_icmp .eq 10, 3) := by decide +kernel
theorem d_mo_heightAt_10 : decode prog_7_method_32_code 10 = .ok (.aload_n 0, 1) := by decide +kernel
theorem d_mo_heightAt_11 : decode prog_7_method_32_code 11 = .ok (.iload_n 1, 1) := by decide +kernel
theorem d_mo_heightAt_12 : decode prog_7_method_32_code 12 = .ok (.iload_n 2, 1) := by decide +kernel
theorem d_mo_heightAt_13 : decode prog_7_method_32_code 13 = .ok (.invokevirtual 179, 3) := by decide +kernel
theorem d_mo_heightAt_16 : decode prog_7_method_32_code 16 = .ok (.ireturn, 1) := by decide +kernel
theorem d_mo_heightAt_17 : decode prog_7_method_32_code 17 = .ok (.aload_n 0, 1) := by decide +kernel
theorem d_mo_heightAt_18 : decode prog_7_method_32_code 18 = .ok (.iconst 0, 1) := by decide +kernel
theorem d_mo_heightAt_19 : decode prog_7_method_32_code 19 = .ok (.iload_n 2, 1) := by decide +kernel
theorem d_mo_heightAt_20 : decode prog_7_method_32_code 20 = .ok (.aload_n 0, 1) := by decide +kernel
theorem d_mo_heightAt_21 : decode prog_7_method_32_code 21 = .ok (.getfield 16, 3) := by decide +kernel
theorem d_mo_heightAt_24 : decode prog_7_method_32_code 24 = .ok (.iload_n 1, 1) := by decide +kernel
theorem d_mo_heightAt_25 : decode prog_7_method_32_code 25 = .ok (.iaload, 1) := by decide +kernel
theorem d_mo_heightAt_26 : decode prog_7_method_32_code 26 = .ok (.isub, 1) := by decide +kernel
theorem d_mo_heightAt_27 : decode prog_7_method_32_code 27 = .ok (.invokevirtual 179, 3) := by decide +kernel
theorem d_mo_heightAt_30 : decode prog_7_method_32_code 30 = .ok (.aload_n 0, 1) := by decide +kernel
theorem d_mo_heightAt_31 : decode prog_7_method_32_code 31 = .ok (.getfield 19, 3) := by decide +kernel
theorem d_mo_heightAt_34 : decode prog_7_method_32_code 34 = .ok (.iload_n 1, 1) := by decide +kernel
theorem d_mo_heightAt_35 : decode prog_7_method_32_code 35 = .ok (.iaload, 1) := by decide +kernel
theorem d_mo_heightAt_36 : decode prog_7_method_32_code 36 = .ok (.imul, 1) := by decide +kernel
theorem d_mo_heightAt_37 : decode prog_7_method_32_code 37 = .ok (.bipush 100, 2) := by decide +kernel
theorem d_mo_heightAt_39 : decode prog_7_method_32_code 39 = .ok (.invokestatic 167, 3) := by decide +kernel
theorem d_mo_heightAt_42 : decode prog_7_method_32_code 42 = .ok (.bipush 10, 2) := by decide +kernel
theorem d_mo_heightAt_44 : decode prog_7_method_32_code 44 = .ok (.aload_n 0, 1) := by decide +kernel
theorem d_mo_heightAt_45 : decode prog_7_method_32_code 45 = .ok (.getfield 13, 3) := by decide +kernel
theorem d_mo_heightAt_48 : decode prog_7_method_32_code 48 = .ok (.iload_n 1, 1) := by decide +kernel
theorem d_mo_heightAt_49 : decode prog_7_method_32_code 49 = .ok (.iaload, 1) := by decide +kernel
theorem d_mo_heightAt_50 : decode prog_7_method_32_code 50 = .ok (.imul, 1) := by decide +kernel
theorem d_mo_heightAt_51 : decode prog_7_method_32_code 51 = .ok (.iadd, 1) := by decide +kernel
theorem d_mo_heightAt_52 : decode prog_7_method_32_code 52 = .ok (.ireturn, 1) := by decide +kernel
theorem d_mo_isTick_0 : decode prog_7_method_33_code 0 = .ok (.iload_n 0, 1) := by decide +kernel
theorem d_mo_isTick_1 : decode prog_7_method_33_code 1 = .ok (.iconst 0, 1) := by decide +kernel
theorem d_mo_isTick_2 : decode prog_7_method_33_code 2 = .ok (.sipush 1439, 3) := by decide +kernel
theorem d_mo_isTick_5 : decode prog_7_method_33_code 5 = .ok (.invokestatic 93, 3) := by decide +kernel
theorem d_mo_isTick_8 : decode prog_7_method_33_code 8 = .ok (.ireturn, 1) := by decide +kernel
theorem d_mo_sum_0 : decode prog_7_method_34_code 0 = .ok (.aload_n 0, 1) := by decide +kernel
theorem d_mo_sum_1 : decode prog_7_method_34_code 1 = .ok (.iload_n 1, 1) := by decide +kernel
theorem d_mo_sum_2 : decode prog_7_method_34_code 2 = .ok (.invokevirtual 147, 3) := by decide +kernel
theorem d_mo_sum_5 : decode prog_7_method_34_code 5 = .ok (.ifCond .ne 9, 3) := by decide +kernel
theorem d_mo_sum_8 : decode prog_7_method_34_code 8 = .ok (.sipush (-10101), 3) := by decide +kernel
theorem d_mo_sum_11 : decode prog_7_method_34_code 11 = .ok (.goto 22, 3) := by decide +kernel
theorem d_mo_sum_14 : decode prog_7_method_34_code 14 = .ok (.iload_n 2, 1) := by decide +kernel
theorem d_mo_sum_15 : decode prog_7_method_34_code 15 = .ok (.invokestatic 182, 3) := by decide +kernel
theorem d_mo_sum_18 : decode prog_7_method_34_code 18 = .ok (.ifCond .eq 12, 3) := by decide +kernel
theorem d_mo_sum_21 : decode prog_7_method_34_code 21 = .ok (.aload_n 0, 1) := by decide +kernel
theorem d_mo_sum_22 : decode prog_7_method_34_code 22 = .ok (.iload_n 1, 1) := by decide +kernel
theorem d_mo_sum_23 : decode prog_7_method_34_code 23 = .ok (.iload_n 2, 1) := by decide +kernel
theorem d_mo_sum_24 : decode prog_7_method_34_code 24 = .ok (.invokevirtual 173, 3) := by decide +kernel
theorem d_mo_sum_27 : decode prog_7_method_34_code 27 = .ok (.goto 6, 3) := by decide +kernel
theorem d_mo_sum_30 : decode prog_7_method_34_code 30 = .ok (.sipush (-10102), 3) := by decide +kernel
theorem d_mo_sum_33 : decode prog_7_method_34_code 33 = .ok (.ireturn, 1) := by decide +kernel
theorem d_mo_height_0 : decode prog_7_method_35_code 0 = .ok (.aload_n 0, 1) := by decide +kernel
theorem d_mo_height_1 : decode prog_7_method_35_code 1 = .ok (.iload_n 1, 1) := by decide +kernel
theorem d_mo_height_2 : decode prog_7_method_35_code 2 = .ok (.invokevirtual 147, 3) := by decide +kernel
theorem d_mo_height_5 : decode prog_7_method_35_code 5 = .ok (.ifCond .ne 9, 3) := by decide +kernel
theorem d_mo_height_8 : decode prog_7_method_35_code 8 = .ok (.sipush (-10101), 3) := by decide +kernel
theorem d_mo_height_11 : decode prog_7_method_35_code 11 = .ok (.goto 22, 3) := by decide +kernel
theorem d_mo_height_14 : decode prog_7_method_35_code 14 = .ok (.iload_n 2, 1) := by decide +kernel
theorem d_mo_height_15 : decode prog_7_method_35_code 15 = .ok (.invokestatic 182, 3) := by decide +kernel
theorem d_mo_height_18 : decode prog_7_method_35_code 18 = .ok (.ifCond .eq 12, 3) := by decide +kernel
theorem d_mo_height_21 : decode prog_7_method_35_code 21 = .ok (.aload_n 0, 1) := by decide +kernel
theorem d_mo_height_22 : decode prog_7_method_35_code 22 = .ok (.iload_n 1, 1) := by decide +kernel
theorem d_mo_height_23 : decode prog_7_method_35_code 23 = .ok (.iload_n 2, 1) := by decide +kernel
theorem d_mo_height_24 : decode prog_7_method_35_code 24 = .ok (.invokevirtual 185, 3) := by decide +kernel
theorem d_mo_height_27 : decode prog_7_method_35_code 27 = .ok (.goto 6, 3) := by decide +kernel
theorem d_mo_height_30 : decode prog_7_method_35_code 30 = .ok (.sipush (-10102), 3) := by decide +kernel
theorem d_mo_height_33 : decode prog_7_method_35_code 33 = .ok (.ireturn, 1) := by decide +kernel
theorem d_mo_then_0 : decode prog_7_method_36_code 0 = .ok (.aload_n 0, 1) := by decide +kernel
theorem d_mo_then_1 : decode prog_7_method_36_code 1 = .ok (.iload_n 1, 1) := by decide +kernel
theorem d_mo_then_2 : decode prog_7_method_36_code 2 = .ok (.iload_n 2, 1) := by decide +kernel
theorem d_mo_then_3 : decode prog_7_method_36_code 3 = .ok (.invokevirtual 185, 3) := by decide +kernel
theorem d_mo_then_6 : decode prog_7_method_36_code 6 = .ok (.istore_n 3, 1) := by decide +kernel
theorem d_mo_then_7 : decode prog_7_method_36_code 7 = .ok (.iconst 1, 1) := by decide +kernel
theorem d_mo_then_8 : decode prog_7_method_36_code 8 = .ok (.istore 4, 2) := by decide +kernel
theorem d_mo_then_10 : decode prog_7_method_36_code 10 = .ok (.iload 4, 2) := by decide +kernel
theorem d_mo_then_12 : decode prog_7_method_36_code 12 = .ok (.sipush 144, 3) := by decide +kernel
theorem d_mo_then_15 : decode prog_7_method_36_code 15 = .ok (.if_icmp .gt 31, 3) := by decide +kernel
theorem d_mo_then_18 : decode prog_7_method_36_code 18 = .ok (.aload_n 0, 1) := by decide +kernel
theorem d_mo_then_19 : decode prog_7_method_36_code 19 = .ok (.iload_n 1, 1) := by decide +kernel
theorem d_mo_then_20 : decode prog_7_method_36_code 20 = .ok (.iload_n 2, 1) := by decide +kernel
theorem d_mo_then_21 : decode prog_7_method_36_code 21 = .ok (.iload 4, 2) := by decide +kernel
theorem d_mo_then_23 : decode prog_7_method_36_code 23 = .ok (.iadd, 1) := by decide +kernel
theorem d_mo_then_24 : decode prog_7_method_36_code 24 = .ok (.invokevirtual 185, 3) := by decide +kernel
theorem d_mo_then_27 : decode prog_7_method_36_code 27 = .ok (.istore 5, 2) := by decide +kernel
theorem d_mo_then_29 : decode prog_7_method_36_code 29 = .ok (.iload 5, 2) := by decide +kernel
theorem d_mo_then_31 : decode prog_7_method_36_code 31 = .ok (.iload_n 3, 1) := by decide +kernel
theorem d_mo_then_32 : decode prog_7_method_36_code 32 = .ok (.if_icmp .eq 8, 3) := by decide +kernel
theorem d_mo_then_35 : decode prog_7_method_36_code 35 = .ok (.iload 5, 2) := by decide +kernel
theorem d_mo_then_37 : decode prog_7_method_36_code 37 = .ok (.iload_n 3, 1) := by decide +kernel
theorem d_mo_then_38 : decode prog_7_method_36_code 38 = .ok (.isub, 1) := by decide +kernel
theorem d_mo_then_39 : decode prog_7_method_36_code 39 = .ok (.ireturn, 1) := by decide +kernel
theorem d_mo_then_40 : decode prog_7_method_36_code 40 = .ok (.iinc 4 1, 3) := by decide +kernel
theorem d_mo_then_43 : decode prog_7_method_36_code 43 = .ok (.goto (-33), 3) := by decide +kernel
theorem d_mo_then_46 : decode prog_7_method_36_code 46 = .ok (.iconst 0, 1) := by decide +kernel
theorem d_mo_then_47 : decode prog_7_method_36_code 47 = .ok (.ireturn, 1) := by decide +kernel
theorem d_mo_turnsAt_0 : decode prog_7_method_37_code 0 = .ok (.aload_n 0, 1) := by decide +kernel
theorem d_mo_turnsAt_1 : decode prog_7_method_37_code 1 = .ok (.iload_n 1, 1) := by decide +kernel
theorem d_mo_turnsAt_2 : decode prog_7_method_37_code 2 = .ok (.iload_n 2, 1) := by decide +kernel
theorem d_mo_turnsAt_3 : decode prog_7_method_37_code 3 = .ok (.invokevirtual 185, 3) := by decide +kernel
theorem d_mo_turnsAt_6 : decode prog_7_method_37_code 6 = .ok (.aload_n 0, 1) := by decide +kernel
theorem d_mo_turnsAt_7 : decode prog_7_method_37_code 7 = .ok (.iload_n 1, 1) := by decide +kernel
theorem d_mo_turnsAt_8 : decode prog_7_method_37_code 8 = .ok (.iload_n 2, 1) := by decide +kernel
theorem d_mo_turnsAt_9 : decode prog_7_method_37_code 9 = .ok (.iconst 1, 1) := by decide +kernel
theorem d_mo_turnsAt_10 : decode prog_7_method_37_code 10 = .ok (.isub, 1) := by decide +kernel
theorem d_mo_turnsAt_11 : decode prog_7_method_37_code 11 = .ok (.invokevirtual 185, 3) := by decide +kernel
theorem d_mo_turnsAt_14 : decode prog_7_method_37_code 14 = .ok (.isub, 1) := by decide +kernel
theorem d_mo_turnsAt_15 : decode prog_7_method_37_code 15 = .ok (.istore_n 3, 1) := by decide +kernel
theorem d_mo_turnsAt_16 : decode prog_7_method_37_code 16 = .ok (.iload_n 3, 1) := by decide +kernel
theorem d_mo_turnsAt_17 : decode prog_7_method_37_code 17 = .ok (.ifCond .ne 7, 3) := by decide +kernel
theorem d_mo_turnsAt_20 : decode prog_7_method_37_code 20 = .ok (.sipush (-10001), 3) := by decide +kernel
theorem d_mo_turnsAt_23 : decode prog_7_method_37_code 23 = .ok (.ireturn, 1) := by decide +kernel
theorem d_mo_turnsAt_24 : decode prog_7_method_37_code 24 = .ok (.aload_n 0, 1) := by decide +kernel
theorem d_mo_turnsAt_25 : decode prog_7_method_37_code 25 = .ok (.iload_n 1, 1) := by decide +kernel
theorem d_mo_turnsAt_26 : decode prog_7_method_37_code 26 = .ok (.iload_n 2, 1) := by decide +kernel
theorem d_mo_turnsAt_27 : decode prog_7_method_37_code 27 = .ok (.invokevirtual 188, 3) := by decide +kernel
theorem d_mo_turnsAt_30 : decode prog_7_method_37_code 30 = .ok (.istore 4, 2) := by decide +kernel
theorem d_mo_turnsAt_32 : decode prog_7_method_37_code 32 = .ok (.iload_n 3, 1) := by decide +kernel
theorem d_mo_turnsAt_33 : decode prog_7_method_37_code 33 = .ok (.ifCond .le 12, 3) := by decide +kernel
theorem d_mo_turnsAt_36 : decode prog_7_method_37_code 36 = .ok (.iload 4, 2) := by decide +kernel
theorem d_mo_turnsAt_38 : decode prog_7_method_37_code 38 = .ok (.ifCond .ge 7, 3) := by decide +kernel
theorem d_mo_turnsAt_41 : decode prog_7_method_37_code 41 = .ok (.iconst 1, 1) := by decide +kernel
theorem d_mo_turnsAt_42 : decode prog_7_method_37_code 42 = .ok (.goto 19, 3) := by decide +kernel
theorem d_mo_turnsAt_45 : decode prog_7_method_37_code 45 = .ok (.iload_n 3, 1) := by decide +kernel
theorem d_mo_turnsAt_46 : decode prog_7_method_37_code 46 = .ok (.ifCond .ge 12, 3) := by decide +kernel
theorem d_mo_turnsAt_49 : decode prog_7_method_37_code 49 = .ok (.iload 4, 2) := by decide +kernel
theorem d_mo_turnsAt_51 : decode prog_7_method_37_code 51 = .ok (.ifCond .le 7, 3) := by decide +kernel
theorem d_mo_turnsAt_54 : decode prog_7_method_37_code 54 = .ok (.iconst 0, 1) := by decide +kernel
theorem d_mo_turnsAt_55 : decode prog_7_method_37_code 55 = .ok (.goto 6, 3) := by decide +kernel
theorem d_mo_turnsAt_58 : decode prog_7_method_37_code 58 = .ok (.sipush (-10001), 3) := by decide +kernel
theorem d_mo_turnsAt_61 : decode prog_7_method_37_code 61 = .ok (.ireturn, 1) := by decide +kernel
theorem d_mo_isDay_0 : decode prog_7_method_38_code 0 = .ok (.iload_n 0, 1) := by decide +kernel
theorem d_mo_isDay_1 : decode prog_7_method_38_code 1 = .ok (.iconst 0, 1) := by decide +kernel
theorem d_mo_isDay_2 : decode prog_7_method_38_code 2 = .ok (.bipush 9, 2) := by decide +kernel
theorem d_mo_isDay_4 : decode prog_7_method_38_code 4 = .ok (.invokestatic 93, 3) := by decide +kernel
theorem d_mo_isDay_7 : decode prog_7_method_38_code 7 = .ok (.ireturn, 1) := by decide +kernel
theorem d_mo_isNeed_0 : decode prog_7_method_39_code 0 = .ok (.iload_n 0, 1) := by decide +kernel
theorem d_mo_isNeed_1 : decode prog_7_method_39_code 1 = .ok (.sipush (-2000), 3) := by decide +kernel
theorem d_mo_isNeed_4 : decode prog_7_method_39_code 4 = .ok (.sipush 4000, 3) := by decide +kernel
theorem d_mo_isNeed_7 : decode prog_7_method_39_code 7 = .ok (.invokestatic 93, 3) := by decide +kernel
theorem d_mo_isNeed_10 : decode prog_7_method_39_code 10 = .ok (.ireturn, 1) := by decide +kernel
theorem d_mo_tideNow_0 : decode prog_7_method_40_code 0 = .ok (.iload_n 3, 1) := by decide +kernel
theorem d_mo_tideNow_1 : decode prog_7_method_40_code 1 = .ok (.istore 5, 2) := by decide +kernel
theorem d_mo_tideNow_3 : decode prog_7_method_40_code 3 = .ok (.sipush 144, 3) := by decide +kernel
theorem d_mo_tideNow_6 : decode prog_7_method_40_code 6 = .ok (.iload_n 2, 1) := by decide +kernel
theorem d_mo_tideNow_7 : decode prog_7_method_40_code 7 = .ok (.imul, 1) := by decide +kernel
theorem d_mo_tideNow_8 : decode prog_7_method_40_code 8 = .ok (.istore 6, 2) := by decide +kernel
theorem d_mo_tideNow_10 : decode prog_7_method_40_code 10 = .ok (.iload 6, 2) := by decide +kernel
theorem d_mo_tideNow_12 : decode prog_7_method_40_code 12 = .ok (.sipush 144, 3) := by decide +kernel
theorem d_mo_tideNow_15 : decode prog_7_method_40_code 15 = .ok (.iload_n 2, 1) := by decide +kernel
theorem d_mo_tideNow_16 : decode prog_7_method_40_code 16 = .ok (.iconst 1, 1) := by decide +kernel
theorem d_mo_tideNow_17 : decode prog_7_method_40_code 17 = .ok (.iadd, 1) := by decide +kernel
theorem d_mo_tideNow_18 : decode prog_7_method_40_code 18 = .ok (.imul, 1) := by decide +kernel
theorem d_mo_tideNow_19 : decode prog_7_method_40_code 19 = .ok (.if_icmp .ge 82, 3) := by decide +kernel
theorem d_mo_tideNow_22 : decode prog_7_method_40_code 22 = .ok (.iload_n 3, 1) := by decide +kernel
theorem d_mo_tideNow_23 : decode prog_7_method_40_code 23 = .ok (.ifCond .lt 78, 3) := by decide +kernel
theorem d_mo_tideNow_26 : decode prog_7_method_40_code 26 = .ok (.aload_n 0, 1) := by decide +kernel
theorem d_mo_tideNow_27 : decode prog_7_method_40_code 27 = .ok (.iload_n 1, 1) := by decide +kernel
theorem d_mo_tideNow_28 : decode prog_7_method_40_code 28 = .ok (.iload 6, 2) := by decide +kernel
theorem d_mo_tideNow_30 : decode prog_7_method_40_code 30 = .ok (.invokevirtual 191, 3) := by decide +kernel
theorem d_mo_tideNow_33 : decode prog_7_method_40_code 33 = .ok (.istore 7, 2) := by decide +kernel
theorem d_mo_tideNow_35 : decode prog_7_method_40_code 35 = .ok (.iload 7, 2) := by decide +kernel
theorem d_mo_tideNow_37 : decode prog_7_method_40_code 37 = .ok (.sipush (-10001), 3) := by decide +kernel
theorem d_mo_tideNow_40 : decode prog_7_method_40_code 40 = .ok (.if_icmp .eq 37, 3) := by decide +kernel
theorem d_mo_tideNow_43 : decode prog_7_method_40_code 43 = .ok (.iload 5, 2) := by decide +kernel
theorem d_mo_tideNow_45 : decode prog_7_method_40_code 45 = .ok (.ifCond .ne 32, 3) := by decide +kernel
theorem d_mo_tideNow_48 : decode prog_7_method_40_code 48 = .ok (.iload 4, 2) := by decide +kernel
theorem d_mo_tideNow_50 : decode prog_7_method_40_code 50 = .ok (.ifCond .ne 8, 3) := by decide +kernel
theorem d_mo_tideNow_53 : decode prog_7_method_40_code 53 = .ok (.iload 6, 2) := by decide +kernel
theorem d_mo_tideNow_55 : decode prog_7_method_40_code 55 = .ok (.goto 21, 3) := by decide +kernel
theorem d_mo_tideNow_58 : decode prog_7_method_40_code 58 = .ok (.iload 4, 2) := by decide +kernel
theorem d_mo_tideNow_60 : decode prog_7_method_40_code 60 = .ok (.iconst 1, 1) := by decide +kernel
theorem d_mo_tideNow_61 : decode prog_7_method_40_code 61 = .ok (.if_icmp .ne 8, 3) := by decide +kernel
theorem d_mo_tideNow_64 : decode prog_7_method_40_code 64 = .ok (.iload 7, 2) := by decide +kernel
theorem d_mo_tideNow_66 : decode prog_7_method_40_code 66 = .ok (.goto 10, 3) := by decide +kernel
theorem d_mo_tideNow_69 : decode prog_7_method_40_code 69 = .ok (.aload_n 0, 1) := by decide +kernel
theorem d_mo_tideNow_70 : decode prog_7_method_40_code 70 = .ok (.iload_n 1, 1) := by decide +kernel
theorem d_mo_tideNow_71 : decode prog_7_method_40_code 71 = .ok (.iload 6, 2) := by decide +kernel
theorem d_mo_tideNow_73 : decode prog_7_method_40_code 73 = .ok (.invokevirtual 185, 3) := by decide +kernel
theorem d_mo_tideNow_76 : decode prog_7_method_40_code 76 = .ok (.ireturn, 1) := by decide +kernel
theorem d_mo_tideNow_77 : decode prog_7_method_40_code 77 = .ok (.iload 5, 2) := by decide +kernel
theorem d_mo_tideNow_79 : decode prog_7_method_40_code 79 = .ok (.iload 7, 2) := by decide +kernel
theorem d_mo_tideNow_81 : decode prog_7_method_40_code 81 = .ok (.sipush (-10001), 3) := by decide +kernel
theorem d_mo_tideNow_84 : decode prog_7_method_40_code 84 = .ok (.if_icmp .eq 7, 3) := by decide +kernel
theorem d_mo_tideNow_87 : decode prog_7_method_40_code 87 = .ok (.iconst 1, 1) := by decide +kernel
theorem d_mo_tideNow_88 : decode prog_7_method_40_code 88 = .ok (.goto 4, 3) := by decide +kernel
theorem d_mo_tideNow_91 : decode prog_7_method_40_code 91 = .ok (.iconst 0, 1) := by decide +kernel
theorem d_mo_tideNow_92 : decode prog_7_method_40_code 92 = .ok (.isub, 1) := by decide +kernel
theorem d_mo_tideNow_93 : decode prog_7_method_40_code 93 = .ok (.istore 5, 2) := by decide +kernel
theorem d_mo_tideNow_95 : decode prog_7_method_40_code 95 = .ok (.iinc 6 1, 3) := by decide +kernel
theorem d_mo_tideNow_98 : decode prog_7_method_40_code 98 = .ok (.goto (-88), 3) := by decide +kernel
theorem d_mo_tideNow_101 : decode prog_7_method_40_code 101 = .ok (.sipush (-10101), 3) := by decide +kernel
theorem d_mo_tideNow_104 : decode prog_7_method_40_code 104 = .ok (.ireturn, 1) := by decide +kernel
theorem d_mo_tide_0 : decode prog_7_method_41_code 0 = .ok (.aload_n 0, 1) := by decide +kernel
theorem d_mo_tide_1 : decode prog_7_method_41_code 1 = .ok (.iload_n 1, 1) := by decide +kernel
theorem d_mo_tide_2 : decode prog_7_method_41_code 2 = .ok (.invokevirtual 147, 3) := by decide +kernel
theorem d_mo_tide_5 : decode prog_7_method_41_code 5 = .ok (.ifCond .ne 7, 3) := by decide +kernel
theorem d_mo_tide_8 : decode prog_7_method_41_code 8 = .ok (.sipush (-10101), 3) := by decide +kernel
theorem d_mo_tide_11 : decode prog_7_method_41_code 11 = .ok (.ireturn, 1) := by decide +kernel
theorem d_mo_tide_12 : decode prog_7_method_41_code 12 = .ok (.iload_n 2, 1) := by decide +kernel
theorem d_mo_tide_13 : decode prog_7_method_41_code 13 = .ok (.invokestatic 194, 3) := by decide +kernel
theorem d_mo_tide_16 : decode prog_7_method_41_code 16 = .ok (.ifCond .ne 7, 3) := by decide +kernel
theorem d_mo_tide_19 : decode prog_7_method_41_code 19 = .ok (.sipush (-10102), 3) := by decide +kernel
theorem d_mo_tide_22 : decode prog_7_method_41_code 22 = .ok (.ireturn, 1) := by decide +kernel
theorem d_mo_tide_23 : decode prog_7_method_41_code 23 = .ok (.aload_n 0, 1) := by decide +kernel
theorem d_mo_tide_24 : decode prog_7_method_41_code 24 = .ok (.iload_n 1, 1) := by decide +kernel
theorem d_mo_tide_25 : decode prog_7_method_41_code 25 = .ok (.iload_n 2, 1) := by decide +kernel
theorem d_mo_tide_26 : decode prog_7_method_41_code 26 = .ok (.iload_n 3, 1) := by decide +kernel
theorem d_mo_tide_27 : decode prog_7_method_41_code 27 = .ok (.iconst 0, 1) := by decide +kernel
theorem d_mo_tide_28 : decode prog_7_method_41_code 28 = .ok (.invokevirtual 197, 3) := by decide +kernel
theorem d_mo_tide_31 : decode prog_7_method_41_code 31 = .ok (.sipush (-10101), 3) := by decide +kernel
theorem d_mo_tide_34 : decode prog_7_method_41_code 34 = .ok (.if_icmp .ne 9, 3) := by decide +kernel
theorem d_mo_tide_37 : decode prog_7_method_41_code 37 = .ok (.sipush (-10101), 3) := by decide +kernel
theorem d_mo_tide_40 : decode prog_7_method_41_code 40 = .ok (.goto 28, 3) := by decide +kernel
theorem d_mo_tide_43 : decode prog_7_method_41_code 43 = .ok (.iload 4, 2) := by decide +kernel
theorem d_mo_tide_45 : decode prog_7_method_41_code 45 = .ok (.iconst 0, 1) := by decide +kernel
theorem d_mo_tide_46 : decode prog_7_method_41_code 46 = .ok (.iconst 2, 1) := by decide +kernel
theorem d_mo_tide_47 : decode prog_7_method_41_code 47 = .ok (.invokestatic 93, 3) := by decide +kernel
theorem d_mo_tide_50 : decode prog_7_method_41_code 50 = .ok (.ifCond .eq 15, 3) := by decide +kernel
theorem d_mo_tide_53 : decode prog_7_method_41_code 53 = .ok (.aload_n 0, 1) := by decide +kernel
theorem d_mo_tide_54 : decode prog_7_method_41_code 54 = .ok (.iload_n 1, 1) := by decide +kernel
theorem d_mo_tide_55 : decode prog_7_method_41_code 55 = .ok (.iload_n 2, 1) := by decide +kernel
theorem d_mo_tide_56 : decode prog_7_method_41_code 56 = .ok (.iload_n 3, 1) := by decide +kernel
theorem d_mo_tide_57 : decode prog_7_method_41_code 57 = .ok (.iload 4, 2) := by decide +kernel
theorem d_mo_tide_59 : decode prog_7_method_41_code 59 = .ok (.invokevirtual 197, 3) := by decide +kernel
theorem d_mo_tide_62 : decode prog_7_method_41_code 62 = .ok (.goto 6, 3) := by decide +kernel
theorem d_mo_tide_65 : decode prog_7_method_41_code 65 = .ok (.sipush (-10102), 3) := by decide +kernel
theorem d_mo_tide_68 : decode prog_7_method_41_code 68 = .ok (.ireturn, 1) := by decide +kernel
theorem d_mo_gateNow_0 : decode prog_7_method_42_code 0 = .ok (.iconst (-1), 1) := by decide +kernel
theorem d_mo_gateNow_1 : decode prog_7_method_42_code 1 = .ok (.istore 6, 2) := by decide +kernel
theorem d_mo_gateNow_3 : decode prog_7_method_42_code 3 = .ok (.sipush (-10001), 3) := by decide +kernel
theorem d_mo_gateNow_6 : decode prog_7_method_42_code 6 = .ok (.istore 7, 2) := by decide +kernel
theorem d_mo_gateNow_8 : decode prog_7_method_42_code 8 = .ok (.sipush (-10001), 3) := by decide +kernel
theorem d_mo_gateNow_11 : decode prog_7_method_42_code 11 = .ok (.istore 8, 2) := by decide +kernel
theorem d_mo_gateNow_13 : decode prog_7_method_42_code 13 = .ok (.iconst 0, 1) := by decide +kernel
theorem d_mo_gateNow_14 : decode prog_7_method_42_code 14 = .ok (.istore 9, 2) := by decide +kernel
theorem d_mo_gateNow_16 : decode prog_7_method_42_code 16 = .ok (.sipush 144, 3) := by decide +kernel
theorem d_mo_gateNow_19 : decode prog_7_method_42_code 19 = .ok (.iload_n 2, 1) := by decide +kernel
theorem d_mo_gateNow_20 : decode prog_7_method_42_code 20 = .ok (.imul, 1) := by decide +kernel
theorem d_mo_gateNow_21 : decode prog_7_method_42_code 21 = .ok (.istore 10, 2) := by decide +kernel
theorem d_mo_gateNow_23 : decode prog_7_method_42_code 23 = .ok (.iload 10, 2) := by decide +kernel
theorem d_mo_gateNow_25 : decode prog_7_method_42_code 25 = .ok (.sipush 144, 3) := by decide +kernel
theorem d_mo_gateNow_28 : decode prog_7_method_42_code 28 = .ok (.iload_n 2, 1) := by decide +kernel
end
section
theorem d_mo_gateNow_29 : decode prog_7_method_42_code 29 = .ok (.iconst 1, 1) := by decide +kernel
theorem d_mo_gateNow_30 : decode prog_7_method_42_code 30 = .ok (.iadd, 1) := by decide +kernel
theorem d_mo_gateNow_31 : decode prog_7_method_42_code 31 = .ok (.imul, 1) := by decide +kernel
theorem d_mo_gateNow_32 : decode prog_7_method_42_code 32 = .ok (.if_icmp .ge 98, 3) := by decide +kernel
theorem d_mo_gateNow_35 : decode prog_7_method_42_code 35 = .ok (.aload_n 0, 1) := by decide +kernel
theorem d_mo_gateNow_36 : decode prog_7_method_42_code 36 = .ok (.iload_n 1, 1) := by decide +kernel
theorem d_mo_gateNow_37 : decode prog_7_method_42_code 37 = .ok (.iload 10, 2) := by decide +kernel
theorem d_mo_gateNow_39 : decode prog_7_method_42_code 39 = .ok (.invokevirtual 185, 3) := by decide +kernel
theorem d_mo_gateNow_42 : decode prog_7_method_42_code 42 = .ok (.iload_n 3, 1) := by decide +kernel
theorem d_mo_gateNow_43 : decode prog_7_method_42_code 43 = .ok (.if_icmp .lt 7, 3) := by decide +kernel
theorem d_mo_gateNow_46 : decode prog_7_method_42_code 46 = .ok (.iconst 1, 1) := by decide +kernel
theorem d_mo_gateNow_47 : decode prog_7_method_42_code 47 = .ok (.goto 4, 3) := by decide +kernel
theorem d_mo_gateNow_50 : decode prog_7_method_42_code 50 = .ok (.iconst 0, 1) := by decide +kernel
theorem d_mo_gateNow_51 : decode prog_7_method_42_code 51 = .ok (.istore 11, 2) := by decide +kernel
theorem d_mo_gateNow_53 : decode prog_7_method_42_code 53 = .ok (.iload 6, 2) := by decide +kernel
theorem d_mo_gateNow_55 : decode prog_7_method_42_code 55 = .ok (.iload 11, 2) := by decide +kernel
theorem d_mo_gateNow_57 : decode prog_7_method_42_code 57 = .ok (.ifCond .eq 12, 3) := by decide +kernel
theorem d_mo_gateNow_60 : decode prog_7_method_42_code 60 = .ok (.iload 9, 2) := by decide +kernel
theorem d_mo_gateNow_62 : decode prog_7_method_42_code 62 = .ok (.ifCond .ne 7, 3) := by decide +kernel
theorem d_mo_gateNow_65 : decode prog_7_method_42_code 65 = .ok (.iconst 1, 1) := by decide +kernel
theorem d_mo_gateNow_66 : decode prog_7_method_42_code 66 = .ok (.goto 4, 3) := by decide +kernel
theorem d_mo_gateNow_69 : decode prog_7_method_42_code 69 = .ok (.iconst 0, 1) := by decide +kernel
theorem d_mo_gateNow_70 : decode prog_7_method_42_code 70 = .ok (.iadd, 1) := by decide +kernel
theorem d_mo_gateNow_71 : decode prog_7_method_42_code 71 = .ok (.istore 6, 2) := by decide +kernel
theorem d_mo_gateNow_73 : decode prog_7_method_42_code 73 = .ok (.iload 11, 2) := by decide +kernel
theorem d_mo_gateNow_75 : decode prog_7_method_42_code 75 = .ok (.ifCond .eq 20, 3) := by decide +kernel
theorem d_mo_gateNow_78 : decode prog_7_method_42_code 78 = .ok (.iload 9, 2) := by decide +kernel
theorem d_mo_gateNow_80 : decode prog_7_method_42_code 80 = .ok (.ifCond .ne 15, 3) := by decide +kernel
theorem d_mo_gateNow_83 : decode prog_7_method_42_code 83 = .ok (.iload 6, 2) := by decide +kernel
theorem d_mo_gateNow_85 : decode prog_7_method_42_code 85 = .ok (.iload 4, 2) := by decide +kernel
theorem d_mo_gateNow_87 : decode prog_7_method_42_code 87 = .ok (.if_icmp .ne 8, 3) := by decide +kernel
theorem d_mo_gateNow_90 : decode prog_7_method_42_code 90 = .ok (.iload 10, 2) := by decide +kernel
theorem d_mo_gateNow_92 : decode prog_7_method_42_code 92 = .ok (.goto 5, 3) := by decide +kernel
theorem d_mo_gateNow_95 : decode prog_7_method_42_code 95 = .ok (.iload 7, 2) := by decide +kernel
theorem d_mo_gateNow_97 : decode prog_7_method_42_code 97 = .ok (.istore 7, 2) := by decide +kernel
theorem d_mo_gateNow_99 : decode prog_7_method_42_code 99 = .ok (.iload 11, 2) := by decide +kernel
theorem d_mo_gateNow_101 : decode prog_7_method_42_code 101 = .ok (.ifCond .eq 15, 3) := by decide +kernel
theorem d_mo_gateNow_104 : decode prog_7_method_42_code 104 = .ok (.iload 6, 2) := by decide +kernel
theorem d_mo_gateNow_106 : decode prog_7_method_42_code 106 = .ok (.iload 4, 2) := by decide +kernel
theorem d_mo_gateNow_108 : decode prog_7_method_42_code 108 = .ok (.if_icmp .ne 8, 3) := by decide +kernel
theorem d_mo_gateNow_111 : decode prog_7_method_42_code 111 = .ok (.iload 10, 2) := by decide +kernel
theorem d_mo_gateNow_113 : decode prog_7_method_42_code 113 = .ok (.goto 5, 3) := by decide +kernel
theorem d_mo_gateNow_116 : decode prog_7_method_42_code 116 = .ok (.iload 8, 2) := by decide +kernel
theorem d_mo_gateNow_118 : decode prog_7_method_42_code 118 = .ok (.istore 8, 2) := by decide +kernel
theorem d_mo_gateNow_120 : decode prog_7_method_42_code 120 = .ok (.iload 11, 2) := by decide +kernel
theorem d_mo_gateNow_122 : decode prog_7_method_42_code 122 = .ok (.istore 9, 2) := by decide +kernel
theorem d_mo_gateNow_124 : decode prog_7_method_42_code 124 = .ok (.iinc 10 1, 3) := by decide +kernel
theorem d_mo_gateNow_127 : decode prog_7_method_42_code 127 = .ok (.goto (-104), 3) := by decide +kernel
theorem d_mo_gateNow_130 : decode prog_7_method_42_code 130 = .ok (.iload 7, 2) := by decide +kernel
theorem d_mo_gateNow_132 : decode prog_7_method_42_code 132 = .ok (.sipush (-10001), 3) := by decide +kernel
theorem d_mo_gateNow_135 : decode prog_7_method_42_code 135 = .ok (.if_icmp .ne 9, 3) := by decide +kernel
theorem d_mo_gateNow_138 : decode prog_7_method_42_code 138 = .ok (.sipush (-10101), 3) := by decide +kernel
theorem d_mo_gateNow_141 : decode prog_7_method_42_code 141 = .ok (.goto 15, 3) := by decide +kernel
theorem d_mo_gateNow_144 : decode prog_7_method_42_code 144 = .ok (.iload 5, 2) := by decide +kernel
theorem d_mo_gateNow_146 : decode prog_7_method_42_code 146 = .ok (.ifCond .ne 8, 3) := by decide +kernel
theorem d_mo_gateNow_149 : decode prog_7_method_42_code 149 = .ok (.iload 7, 2) := by decide +kernel
theorem d_mo_gateNow_151 : decode prog_7_method_42_code 151 = .ok (.goto 5, 3) := by decide +kernel
theorem d_mo_gateNow_154 : decode prog_7_method_42_code 154 = .ok (.iload 8, 2) := by decide +kernel
theorem d_mo_gateNow_156 : decode prog_7_method_42_code 156 = .ok (.ireturn, 1) := by decide +kernel
theorem d_mo_gate_0 : decode prog_7_method_43_code 0 = .ok (.aload_n 0, 1) := by decide +kernel
theorem d_mo_gate_1 : decode prog_7_method_43_code 1 = .ok (.iload_n 1, 1) := by decide +kernel
theorem d_mo_gate_2 : decode prog_7_method_43_code 2 = .ok (.invokevirtual 147, 3) := by decide +kernel
theorem d_mo_gate_5 : decode prog_7_method_43_code 5 = .ok (.ifCond .ne 7, 3) := by decide +kernel
theorem d_mo_gate_8 : decode prog_7_method_43_code 8 = .ok (.sipush (-10101), 3) := by decide +kernel
theorem d_mo_gate_11 : decode prog_7_method_43_code 11 = .ok (.ireturn, 1) := by decide +kernel
theorem d_mo_gate_12 : decode prog_7_method_43_code 12 = .ok (.iload_n 2, 1) := by decide +kernel
theorem d_mo_gate_13 : decode prog_7_method_43_code 13 = .ok (.invokestatic 194, 3) := by decide +kernel
theorem d_mo_gate_16 : decode prog_7_method_43_code 16 = .ok (.ifCond .eq 10, 3) := by decide +kernel
theorem d_mo_gate_19 : decode prog_7_method_43_code 19 = .ok (.iload_n 3, 1) := by decide +kernel
theorem d_mo_gate_20 : decode prog_7_method_43_code 20 = .ok (.invokestatic 201, 3) := by decide +kernel
theorem d_mo_gate_23 : decode prog_7_method_43_code 23 = .ok (.ifCond .ne 7, 3) := by decide +kernel
theorem d_mo_gate_26 : decode prog_7_method_43_code 26 = .ok (.sipush (-10102), 3) := by decide +kernel
theorem d_mo_gate_29 : decode prog_7_method_43_code 29 = .ok (.ireturn, 1) := by decide +kernel
theorem d_mo_gate_30 : decode prog_7_method_43_code 30 = .ok (.aload_n 0, 1) := by decide +kernel
theorem d_mo_gate_31 : decode prog_7_method_43_code 31 = .ok (.iload_n 1, 1) := by decide +kernel
theorem d_mo_gate_32 : decode prog_7_method_43_code 32 = .ok (.iload_n 2, 1) := by decide +kernel
theorem d_mo_gate_33 : decode prog_7_method_43_code 33 = .ok (.iload_n 3, 1) := by decide +kernel
theorem d_mo_gate_34 : decode prog_7_method_43_code 34 = .ok (.iload 4, 2) := by decide +kernel
theorem d_mo_gate_36 : decode prog_7_method_43_code 36 = .ok (.iconst 0, 1) := by decide +kernel
theorem d_mo_gate_37 : decode prog_7_method_43_code 37 = .ok (.invokevirtual 204, 3) := by decide +kernel
theorem d_mo_gate_40 : decode prog_7_method_43_code 40 = .ok (.sipush (-10101), 3) := by decide +kernel
theorem d_mo_gate_43 : decode prog_7_method_43_code 43 = .ok (.if_icmp .ne 9, 3) := by decide +kernel
theorem d_mo_gate_46 : decode prog_7_method_43_code 46 = .ok (.sipush (-10101), 3) := by decide +kernel
theorem d_mo_gate_49 : decode prog_7_method_43_code 49 = .ok (.goto 30, 3) := by decide +kernel
theorem d_mo_gate_52 : decode prog_7_method_43_code 52 = .ok (.iload 5, 2) := by decide +kernel
theorem d_mo_gate_54 : decode prog_7_method_43_code 54 = .ok (.iconst 0, 1) := by decide +kernel
theorem d_mo_gate_55 : decode prog_7_method_43_code 55 = .ok (.iconst 1, 1) := by decide +kernel
theorem d_mo_gate_56 : decode prog_7_method_43_code 56 = .ok (.invokestatic 93, 3) := by decide +kernel
theorem d_mo_gate_59 : decode prog_7_method_43_code 59 = .ok (.ifCond .eq 17, 3) := by decide +kernel
theorem d_mo_gate_62 : decode prog_7_method_43_code 62 = .ok (.aload_n 0, 1) := by decide +kernel
theorem d_mo_gate_63 : decode prog_7_method_43_code 63 = .ok (.iload_n 1, 1) := by decide +kernel
theorem d_mo_gate_64 : decode prog_7_method_43_code 64 = .ok (.iload_n 2, 1) := by decide +kernel
theorem d_mo_gate_65 : decode prog_7_method_43_code 65 = .ok (.iload_n 3, 1) := by decide +kernel
theorem d_mo_gate_66 : decode prog_7_method_43_code 66 = .ok (.iload 4, 2) := by decide +kernel
theorem d_mo_gate_68 : decode prog_7_method_43_code 68 = .ok (.iload 5, 2) := by decide +kernel
theorem d_mo_gate_70 : decode prog_7_method_43_code 70 = .ok (.invokevirtual 204, 3) := by decide +kernel
theorem d_mo_gate_73 : decode prog_7_method_43_code 73 = .ok (.goto 6, 3) := by decide +kernel
theorem d_mo_gate_76 : decode prog_7_method_43_code 76 = .ok (.sipush (-10102), 3) := by decide +kernel
theorem d_mo_gate_79 : decode prog_7_method_43_code 79 = .ok (.ireturn, 1) := by decide +kernel
theorem d_mo_dryNow_0 : decode prog_7_method_44_code 0 = .ok (.iconst 0, 1) := by decide +kernel
theorem d_mo_dryNow_1 : decode prog_7_method_44_code 1 = .ok (.istore 4, 2) := by decide +kernel
theorem d_mo_dryNow_3 : decode prog_7_method_44_code 3 = .ok (.sipush 144, 3) := by decide +kernel
theorem d_mo_dryNow_6 : decode prog_7_method_44_code 6 = .ok (.iload_n 2, 1) := by decide +kernel
theorem d_mo_dryNow_7 : decode prog_7_method_44_code 7 = .ok (.imul, 1) := by decide +kernel
theorem d_mo_dryNow_8 : decode prog_7_method_44_code 8 = .ok (.istore 5, 2) := by decide +kernel
theorem d_mo_dryNow_10 : decode prog_7_method_44_code 10 = .ok (.iload 5, 2) := by decide +kernel
theorem d_mo_dryNow_12 : decode prog_7_method_44_code 12 = .ok (.sipush 144, 3) := by decide +kernel
theorem d_mo_dryNow_15 : decode prog_7_method_44_code 15 = .ok (.iload_n 2, 1) := by decide +kernel
theorem d_mo_dryNow_16 : decode prog_7_method_44_code 16 = .ok (.iconst 1, 1) := by decide +kernel
theorem d_mo_dryNow_17 : decode prog_7_method_44_code 17 = .ok (.iadd, 1) := by decide +kernel
theorem d_mo_dryNow_18 : decode prog_7_method_44_code 18 = .ok (.imul, 1) := by decide +kernel
theorem d_mo_dryNow_19 : decode prog_7_method_44_code 19 = .ok (.if_icmp .ge 30, 3) := by decide +kernel
theorem d_mo_dryNow_22 : decode prog_7_method_44_code 22 = .ok (.iload 4, 2) := by decide +kernel
theorem d_mo_dryNow_24 : decode prog_7_method_44_code 24 = .ok (.aload_n 0, 1) := by decide +kernel
theorem d_mo_dryNow_25 : decode prog_7_method_44_code 25 = .ok (.iload_n 1, 1) := by decide +kernel
theorem d_mo_dryNow_26 : decode prog_7_method_44_code 26 = .ok (.iload 5, 2) := by decide +kernel
theorem d_mo_dryNow_28 : decode prog_7_method_44_code 28 = .ok (.invokevirtual 185, 3) := by decide +kernel
theorem d_mo_dryNow_31 : decode prog_7_method_44_code 31 = .ok (.iload_n 3, 1) := by decide +kernel
theorem d_mo_dryNow_32 : decode prog_7_method_44_code 32 = .ok (.if_icmp .ge 7, 3) := by decide +kernel
theorem d_mo_dryNow_35 : decode prog_7_method_44_code 35 = .ok (.iconst 1, 1) := by decide +kernel
theorem d_mo_dryNow_36 : decode prog_7_method_44_code 36 = .ok (.goto 4, 3) := by decide +kernel
theorem d_mo_dryNow_39 : decode prog_7_method_44_code 39 = .ok (.iconst 0, 1) := by decide +kernel
theorem d_mo_dryNow_40 : decode prog_7_method_44_code 40 = .ok (.iadd, 1) := by decide +kernel
theorem d_mo_dryNow_41 : decode prog_7_method_44_code 41 = .ok (.istore 4, 2) := by decide +kernel
theorem d_mo_dryNow_43 : decode prog_7_method_44_code 43 = .ok (.iinc 5 1, 3) := by decide +kernel
theorem d_mo_dryNow_46 : decode prog_7_method_44_code 46 = .ok (.goto (-36), 3) := by decide +kernel
theorem d_mo_dryNow_49 : decode prog_7_method_44_code 49 = .ok (.iload 4, 2) := by decide +kernel
theorem d_mo_dryNow_51 : decode prog_7_method_44_code 51 = .ok (.ireturn, 1) := by decide +kernel
theorem d_mo_dry_0 : decode prog_7_method_45_code 0 = .ok (.aload_n 0, 1) := by decide +kernel
theorem d_mo_dry_1 : decode prog_7_method_45_code 1 = .ok (.iload_n 1, 1) := by decide +kernel
theorem d_mo_dry_2 : decode prog_7_method_45_code 2 = .ok (.invokevirtual 147, 3) := by decide +kernel
theorem d_mo_dry_5 : decode prog_7_method_45_code 5 = .ok (.ifCond .ne 9, 3) := by decide +kernel
theorem d_mo_dry_8 : decode prog_7_method_45_code 8 = .ok (.sipush (-10101), 3) := by decide +kernel
theorem d_mo_dry_11 : decode prog_7_method_45_code 11 = .ok (.goto 30, 3) := by decide +kernel
theorem d_mo_dry_14 : decode prog_7_method_45_code 14 = .ok (.iload_n 2, 1) := by decide +kernel
theorem d_mo_dry_15 : decode prog_7_method_45_code 15 = .ok (.invokestatic 194, 3) := by decide +kernel
theorem d_mo_dry_18 : decode prog_7_method_45_code 18 = .ok (.ifCond .eq 20, 3) := by decide +kernel
theorem d_mo_dry_21 : decode prog_7_method_45_code 21 = .ok (.iload_n 3, 1) := by decide +kernel
theorem d_mo_dry_22 : decode prog_7_method_45_code 22 = .ok (.invokestatic 201, 3) := by decide +kernel
theorem d_mo_dry_25 : decode prog_7_method_45_code 25 = .ok (.ifCond .eq 13, 3) := by decide +kernel
theorem d_mo_dry_28 : decode prog_7_method_45_code 28 = .ok (.aload_n 0, 1) := by decide +kernel
theorem d_mo_dry_29 : decode prog_7_method_45_code 29 = .ok (.iload_n 1, 1) := by decide +kernel
theorem d_mo_dry_30 : decode prog_7_method_45_code 30 = .ok (.iload_n 2, 1) := by decide +kernel
theorem d_mo_dry_31 : decode prog_7_method_45_code 31 = .ok (.iload_n 3, 1) := by decide +kernel
theorem d_mo_dry_32 : decode prog_7_method_45_code 32 = .ok (.invokevirtual 208, 3) := by decide +kernel
theorem d_mo_dry_35 : decode prog_7_method_45_code 35 = .ok (.goto 6, 3) := by decide +kernel
theorem d_mo_dry_38 : decode prog_7_method_45_code 38 = .ok (.sipush (-10102), 3) := by decide +kernel
theorem d_mo_dry_41 : decode prog_7_method_45_code 41 = .ok (.ireturn, 1) := by decide +kernel
theorem d_mo_streamAt_0 : decode prog_7_method_46_code 0 = .ok (.aload_n 0, 1) := by decide +kernel
theorem d_mo_streamAt_1 : decode prog_7_method_46_code 1 = .ok (.iload_n 1, 1) := by decide +kernel
theorem d_mo_streamAt_2 : decode prog_7_method_46_code 2 = .ok (.iload_n 3, 1) := by decide +kernel
theorem d_mo_streamAt_3 : decode prog_7_method_46_code 3 = .ok (.invokevirtual 185, 3) := by decide +kernel
theorem d_mo_streamAt_6 : decode prog_7_method_46_code 6 = .ok (.aload_n 0, 1) := by decide +kernel
theorem d_mo_streamAt_7 : decode prog_7_method_46_code 7 = .ok (.iload_n 2, 1) := by decide +kernel
theorem d_mo_streamAt_8 : decode prog_7_method_46_code 8 = .ok (.iload_n 3, 1) := by decide +kernel
theorem d_mo_streamAt_9 : decode prog_7_method_46_code 9 = .ok (.invokevirtual 185, 3) := by decide +kernel
theorem d_mo_streamAt_12 : decode prog_7_method_46_code 12 = .ok (.isub, 1) := by decide +kernel
theorem d_mo_streamAt_13 : decode prog_7_method_46_code 13 = .ok (.ireturn, 1) := by decide +kernel
theorem d_mo_stream_0 : decode prog_7_method_47_code 0 = .ok (.aload_n 0, 1) := by decide +kernel
theorem d_mo_stream_1 : decode prog_7_method_47_code 1 = .ok (.iload_n 1, 1) := by decide +kernel
theorem d_mo_stream_2 : decode prog_7_method_47_code 2 = .ok (.invokevirtual 147, 3) := by decide +kernel
theorem d_mo_stream_5 : decode prog_7_method_47_code 5 = .ok (.ifCond .eq 11, 3) := by decide +kernel
theorem d_mo_stream_8 : decode prog_7_method_47_code 8 = .ok (.aload_n 0, 1) := by decide +kernel
theorem d_mo_stream_9 : decode prog_7_method_47_code 9 = .ok (.iload_n 2, 1) := by decide +kernel
theorem d_mo_stream_10 : decode prog_7_method_47_code 10 = .ok (.invokevirtual 147, 3) := by decide +kernel
theorem d_mo_stream_13 : decode prog_7_method_47_code 13 = .ok (.ifCond .ne 9, 3) := by decide +kernel
theorem d_mo_stream_16 : decode prog_7_method_47_code 16 = .ok (.sipush (-10101), 3) := by decide +kernel
theorem d_mo_stream_19 : decode prog_7_method_47_code 19 = .ok (.goto 23, 3) := by decide +kernel
theorem d_mo_stream_22 : decode prog_7_method_47_code 22 = .ok (.iload_n 3, 1) := by decide +kernel
theorem d_mo_stream_23 : decode prog_7_method_47_code 23 = .ok (.invokestatic 182, 3) := by decide +kernel
theorem d_mo_stream_26 : decode prog_7_method_47_code 26 = .ok (.ifCond .eq 13, 3) := by decide +kernel
theorem d_mo_stream_29 : decode prog_7_method_47_code 29 = .ok (.aload_n 0, 1) := by decide +kernel
theorem d_mo_stream_30 : decode prog_7_method_47_code 30 = .ok (.iload_n 1, 1) := by decide +kernel
theorem d_mo_stream_31 : decode prog_7_method_47_code 31 = .ok (.iload_n 2, 1) := by decide +kernel
theorem d_mo_stream_32 : decode prog_7_method_47_code 32 = .ok (.iload_n 3, 1) := by decide +kernel
theorem d_mo_stream_33 : decode prog_7_method_47_code 33 = .ok (.invokevirtual 211, 3) := by decide +kernel
theorem d_mo_stream_36 : decode prog_7_method_47_code 36 = .ok (.goto 6, 3) := by decide +kernel
theorem d_mo_stream_39 : decode prog_7_method_47_code 39 = .ok (.sipush (-10102), 3) := by decide +kernel
theorem d_mo_stream_42 : decode prog_7_method_47_code 42 = .ok (.ireturn, 1) := by decide +kernel
theorem d_mo_slackNow_0 : decode prog_7_method_48_code 0 = .ok (.iload_n 3, 1) := by decide +kernel
theorem d_mo_slackNow_1 : decode prog_7_method_48_code 1 = .ok (.istore 4, 2) := by decide +kernel
theorem d_mo_slackNow_3 : decode prog_7_method_48_code 3 = .ok (.iload 4, 2) := by decide +kernel
theorem d_mo_slackNow_5 : decode prog_7_method_48_code 5 = .ok (.iload_n 3, 1) := by decide +kernel
theorem d_mo_slackNow_6 : decode prog_7_method_48_code 6 = .ok (.sipush 144, 3) := by decide +kernel
theorem d_mo_slackNow_9 : decode prog_7_method_48_code 9 = .ok (.iadd, 1) := by decide +kernel
theorem d_mo_slackNow_10 : decode prog_7_method_48_code 10 = .ok (.if_icmp .ge 59, 3) := by decide +kernel
theorem d_mo_slackNow_13 : decode prog_7_method_48_code 13 = .ok (.aload_n 0, 1) := by decide +kernel
theorem d_mo_slackNow_14 : decode prog_7_method_48_code 14 = .ok (.iload_n 1, 1) := by decide +kernel
theorem d_mo_slackNow_15 : decode prog_7_method_48_code 15 = .ok (.iload_n 2, 1) := by decide +kernel
theorem d_mo_slackNow_16 : decode prog_7_method_48_code 16 = .ok (.iload 4, 2) := by decide +kernel
theorem d_mo_slackNow_18 : decode prog_7_method_48_code 18 = .ok (.invokevirtual 211, 3) := by decide +kernel
theorem d_mo_slackNow_21 : decode prog_7_method_48_code 21 = .ok (.istore 5, 2) := by decide +kernel
theorem d_mo_slackNow_23 : decode prog_7_method_48_code 23 = .ok (.aload_n 0, 1) := by decide +kernel
theorem d_mo_slackNow_24 : decode prog_7_method_48_code 24 = .ok (.iload_n 1, 1) := by decide +kernel
theorem d_mo_slackNow_25 : decode prog_7_method_48_code 25 = .ok (.iload_n 2, 1) := by decide +kernel
theorem d_mo_slackNow_26 : decode prog_7_method_48_code 26 = .ok (.iload 4, 2) := by decide +kernel
theorem d_mo_slackNow_28 : decode prog_7_method_48_code 28 = .ok (.iconst 1, 1) := by decide +kernel
theorem d_mo_slackNow_29 : decode prog_7_method_48_code 29 = .ok (.isub, 1) := by decide +kernel
theorem d_mo_slackNow_30 : decode prog_7_method_48_code 30 = .ok (.invokevirtual 211, 3) := by decide +kernel
theorem d_mo_slackNow_33 : decode prog_7_method_48_code 33 = .ok (.istore 6, 2) := by decide +kernel
theorem d_mo_slackNow_35 : decode prog_7_method_48_code 35 = .ok (.iload 5, 2) := by decide +kernel
theorem d_mo_slackNow_37 : decode prog_7_method_48_code 37 = .ok (.ifCond .eq 23, 3) := by decide +kernel
theorem d_mo_slackNow_40 : decode prog_7_method_48_code 40 = .ok (.iload 5, 2) := by decide +kernel
theorem d_mo_slackNow_42 : decode prog_7_method_48_code 42 = .ok (.ifCond .le 8, 3) := by decide +kernel
theorem d_mo_slackNow_45 : decode prog_7_method_48_code 45 = .ok (.iload 6, 2) := by decide +kernel
theorem d_mo_slackNow_47 : decode prog_7_method_48_code 47 = .ok (.ifCond .lt 13, 3) := by decide +kernel
theorem d_mo_slackNow_50 : decode prog_7_method_48_code 50 = .ok (.iload 5, 2) := by decide +kernel
theorem d_mo_slackNow_52 : decode prog_7_method_48_code 52 = .ok (.ifCond .ge 11, 3) := by decide +kernel
theorem d_mo_slackNow_55 : decode prog_7_method_48_code 55 = .ok (.iload 6, 2) := by decide +kernel
theorem d_mo_slackNow_57 : decode prog_7_method_48_code 57 = .ok (.ifCond .le 6, 3) := by decide +kernel
theorem d_mo_slackNow_60 : decode prog_7_method_48_code 60 = .ok (.iload 4, 2) := by decide +kernel
theorem d_mo_slackNow_62 : decode prog_7_method_48_code 62 = .ok (.ireturn, 1) := by decide +kernel
theorem d_mo_slackNow_63 : decode prog_7_method_48_code 63 = .ok (.iinc 4 1, 3) := by decide +kernel
theorem d_mo_slackNow_66 : decode prog_7_method_48_code 66 = .ok (.goto (-63), 3) := by decide +kernel
theorem d_mo_slackNow_69 : decode prog_7_method_48_code 69 = .ok (.sipush (-10001), 3) := by decide +kernel
theorem d_mo_slackNow_72 : decode prog_7_method_48_code 72 = .ok (.ireturn, 1) := by decide +kernel
theorem d_mo_slack_0 : decode prog_7_method_49_code 0 = .ok (.aload_n 0, 1) := by decide +kernel
theorem d_mo_slack_1 : decode prog_7_method_49_code 1 = .ok (.iload_n 1, 1) := by decide +kernel
theorem d_mo_slack_2 : decode prog_7_method_49_code 2 = .ok (.invokevirtual 147, 3) := by decide +kernel
theorem d_mo_slack_5 : decode prog_7_method_49_code 5 = .ok (.ifCond .eq 11, 3) := by decide +kernel
theorem d_mo_slack_8 : decode prog_7_method_49_code 8 = .ok (.aload_n 0, 1) := by decide +kernel
theorem d_mo_slack_9 : decode prog_7_method_49_code 9 = .ok (.iload_n 2, 1) := by decide +kernel
theorem d_mo_slack_10 : decode prog_7_method_49_code 10 = .ok (.invokevirtual 147, 3) := by decide +kernel
theorem d_mo_slack_13 : decode prog_7_method_49_code 13 = .ok (.ifCond .ne 9, 3) := by decide +kernel
theorem d_mo_slack_16 : decode prog_7_method_49_code 16 = .ok (.sipush (-10101), 3) := by decide +kernel
theorem d_mo_slack_19 : decode prog_7_method_49_code 19 = .ok (.goto 23, 3) := by decide +kernel
theorem d_mo_slack_22 : decode prog_7_method_49_code 22 = .ok (.iload_n 3, 1) := by decide +kernel
theorem d_mo_slack_23 : decode prog_7_method_49_code 23 = .ok (.invokestatic 182, 3) := by decide +kernel
theorem d_mo_slack_26 : decode prog_7_method_49_code 26 = .ok (.ifCond .eq 13, 3) := by decide +kernel
theorem d_mo_slack_29 : decode prog_7_method_49_code 29 = .ok (.aload_n 0, 1) := by decide +kernel
theorem d_mo_slack_30 : decode prog_7_method_49_code 30 = .ok (.iload_n 1, 1) := by decide +kernel
theorem d_mo_slack_31 : decode prog_7_method_49_code 31 = .ok (.iload_n 2, 1) := by decide +kernel
theorem d_mo_slack_32 : decode prog_7_method_49_code 32 = .ok (.iload_n 3, 1) := by decide +kernel
theorem d_mo_slack_33 : decode prog_7_method_49_code 33 = .ok (.invokevirtual 214, 3) := by decide +kernel
theorem d_mo_slack_36 : decode prog_7_method_49_code 36 = .ok (.goto 6, 3) := by decide +kernel
theorem d_mo_slack_39 : decode prog_7_method_49_code 39 = .ok (.sipush (-10102), 3) := by decide +kernel
theorem d_mo_slack_42 : decode prog_7_method_49_code 42 = .ok (.ireturn, 1) := by decide +kernel
theorem d_mo_tripNow_0 : decode prog_7_method_50_code 0 = .ok (.iconst 0, 1) := by decide +kernel
theorem d_mo_tripNow_1 : decode prog_7_method_50_code 1 = .ok (.istore 5, 2) := by decide +kernel
theorem d_mo_tripNow_3 : decode prog_7_method_50_code 3 = .ok (.iconst 0, 1) := by decide +kernel
theorem d_mo_tripNow_4 : decode prog_7_method_50_code 4 = .ok (.istore 6, 2) := by decide +kernel
theorem d_mo_tripNow_6 : decode prog_7_method_50_code 6 = .ok (.iload 6, 2) := by decide +kernel
theorem d_mo_tripNow_8 : decode prog_7_method_50_code 8 = .ok (.sipush 200, 3) := by decide +kernel
theorem d_mo_tripNow_11 : decode prog_7_method_50_code 11 = .ok (.if_icmp .ge 58, 3) := by decide +kernel
theorem d_mo_tripNow_14 : decode prog_7_method_50_code 14 = .ok (.iload 4, 2) := by decide +kernel
theorem d_mo_tripNow_16 : decode prog_7_method_50_code 16 = .ok (.aload_n 0, 1) := by decide +kernel
theorem d_mo_tripNow_17 : decode prog_7_method_50_code 17 = .ok (.iload_n 1, 1) := by decide +kernel
theorem d_mo_tripNow_18 : decode prog_7_method_50_code 18 = .ok (.iload_n 2, 1) := by decide +kernel
theorem d_mo_tripNow_19 : decode prog_7_method_50_code 19 = .ok (.iload_n 3, 1) := by decide +kernel
theorem d_mo_tripNow_20 : decode prog_7_method_50_code 20 = .ok (.iload 6, 2) := by decide +kernel
theorem d_mo_tripNow_22 : decode prog_7_method_50_code 22 = .ok (.iadd, 1) := by decide +kernel
theorem d_mo_tripNow_23 : decode prog_7_method_50_code 23 = .ok (.invokevirtual 211, 3) := by decide +kernel
theorem d_mo_tripNow_26 : decode prog_7_method_50_code 26 = .ok (.bipush 20, 2) := by decide +kernel
theorem d_mo_tripNow_28 : decode prog_7_method_50_code 28 = .ok (.invokestatic 167, 3) := by decide +kernel
theorem d_mo_tripNow_31 : decode prog_7_method_50_code 31 = .ok (.iadd, 1) := by decide +kernel
theorem d_mo_tripNow_32 : decode prog_7_method_50_code 32 = .ok (.istore 7, 2) := by decide +kernel
theorem d_mo_tripNow_34 : decode prog_7_method_50_code 34 = .ok (.iload 5, 2) := by decide +kernel
theorem d_mo_tripNow_36 : decode prog_7_method_50_code 36 = .ok (.iload 7, 2) := by decide +kernel
theorem d_mo_tripNow_38 : decode prog_7_method_50_code 38 = .ok (.ifCond .le 8, 3) := by decide +kernel
theorem d_mo_tripNow_41 : decode prog_7_method_50_code 41 = .ok (.iload 7, 2) := by decide +kernel
theorem d_mo_tripNow_43 : decode prog_7_method_50_code 43 = .ok (.goto 4, 3) := by decide +kernel
theorem d_mo_tripNow_46 : decode prog_7_method_50_code 46 = .ok (.iconst 0, 1) := by decide +kernel
theorem d_mo_tripNow_47 : decode prog_7_method_50_code 47 = .ok (.iadd, 1) := by decide +kernel
theorem d_mo_tripNow_48 : decode prog_7_method_50_code 48 = .ok (.istore 5, 2) := by decide +kernel
theorem d_mo_tripNow_50 : decode prog_7_method_50_code 50 = .ok (.iload 5, 2) := by decide +kernel
theorem d_mo_tripNow_52 : decode prog_7_method_50_code 52 = .ok (.sipush 300, 3) := by decide +kernel
theorem d_mo_tripNow_55 : decode prog_7_method_50_code 55 = .ok (.if_icmp .lt 8, 3) := by decide +kernel
theorem d_mo_tripNow_58 : decode prog_7_method_50_code 58 = .ok (.iload 6, 2) := by decide +kernel
theorem d_mo_tripNow_60 : decode prog_7_method_50_code 60 = .ok (.iconst 1, 1) := by decide +kernel
theorem d_mo_tripNow_61 : decode prog_7_method_50_code 61 = .ok (.iadd, 1) := by decide +kernel
theorem d_mo_tripNow_62 : decode prog_7_method_50_code 62 = .ok (.ireturn, 1) := by decide +kernel
theorem d_mo_tripNow_63 : decode prog_7_method_50_code 63 = .ok (.iinc 6 1, 3) := by decide +kernel
theorem d_mo_tripNow_66 : decode prog_7_method_50_code 66 = .ok (.goto (-60), 3) := by decide +kernel
theorem d_mo_tripNow_69 : decode prog_7_method_50_code 69 = .ok (.sipush (-10001), 3) := by decide +kernel
theorem d_mo_tripNow_72 : decode prog_7_method_50_code 72 = .ok (.ireturn, 1) := by decide +kernel
theorem d_mo_isPace_0 : decode prog_7_method_51_code 0 = .ok (.iload_n 0, 1) := by decide +kernel
theorem d_mo_isPace_1 : decode prog_7_method_51_code 1 = .ok (.iconst 1, 1) := by decide +kernel
theorem d_mo_isPace_2 : decode prog_7_method_51_code 2 = .ok (.bipush 30, 2) := by decide +kernel
theorem d_mo_isPace_4 : decode prog_7_method_51_code 4 = .ok (.invokestatic 93, 3) := by decide +kernel
theorem d_mo_isPace_7 : decode prog_7_method_51_code 7 = .ok (.ireturn, 1) := by decide +kernel
theorem d_mo_trip_0 : decode prog_7_method_52_code 0 = .ok (.aload_n 0, 1) := by decide +kernel
theorem d_mo_trip_1 : decode prog_7_method_52_code 1 = .ok (.iload_n 1, 1) := by decide +kernel
theorem d_mo_trip_2 : decode prog_7_method_52_code 2 = .ok (.invokevirtual 147, 3) := by decide +kernel
theorem d_mo_trip_5 : decode prog_7_method_52_code 5 = .ok (.ifCond .eq 11, 3) := by decide +kernel
theorem d_mo_trip_8 : decode prog_7_method_52_code 8 = .ok (.aload_n 0, 1) := by decide +kernel
theorem d_mo_trip_9 : decode prog_7_method_52_code 9 = .ok (.iload_n 2, 1) := by decide +kernel
theorem d_mo_trip_10 : decode prog_7_method_52_code 10 = .ok (.invokevirtual 147, 3) := by decide +kernel
theorem d_mo_trip_13 : decode prog_7_method_52_code 13 = .ok (.ifCond .ne 7, 3) := by decide +kernel
theorem d_mo_trip_16 : decode prog_7_method_52_code 16 = .ok (.sipush (-10101), 3) := by decide +kernel
theorem d_mo_trip_19 : decode prog_7_method_52_code 19 = .ok (.ireturn, 1) := by decide +kernel
theorem d_mo_trip_20 : decode prog_7_method_52_code 20 = .ok (.iload_n 3, 1) := by decide +kernel
theorem d_mo_trip_21 : decode prog_7_method_52_code 21 = .ok (.invokestatic 182, 3) := by decide +kernel
theorem d_mo_trip_24 : decode prog_7_method_52_code 24 = .ok (.ifCond .eq 23, 3) := by decide +kernel
theorem d_mo_trip_27 : decode prog_7_method_52_code 27 = .ok (.iload 4, 2) := by decide +kernel
theorem d_mo_trip_29 : decode prog_7_method_52_code 29 = .ok (.invokestatic 217, 3) := by decide +kernel
theorem d_mo_trip_32 : decode prog_7_method_52_code 32 = .ok (.ifCond .eq 15, 3) := by decide +kernel
theorem d_mo_trip_35 : decode prog_7_method_52_code 35 = .ok (.aload_n 0, 1) := by decide +kernel
theorem d_mo_trip_36 : decode prog_7_method_52_code 36 = .ok (.iload_n 1, 1) := by decide +kernel
theorem d_mo_trip_37 : decode prog_7_method_52_code 37 = .ok (.iload_n 2, 1) := by decide +kernel
theorem d_mo_trip_38 : decode prog_7_method_52_code 38 = .ok (.iload_n 3, 1) := by decide +kernel
theorem d_mo_trip_39 : decode prog_7_method_52_code 39 = .ok (.iload 4, 2) := by decide +kernel
theorem d_mo_trip_41 : decode prog_7_method_52_code 41 = .ok (.invokevirtual 220, 3) := by decide +kernel
theorem d_mo_trip_44 : decode prog_7_method_52_code 44 = .ok (.goto 6, 3) := by decide +kernel
theorem d_mo_trip_47 : decode prog_7_method_52_code 47 = .ok (.sipush (-10102), 3) := by decide +kernel
theorem d_mo_trip_50 : decode prog_7_method_52_code 50 = .ok (.ireturn, 1) := by decide +kernel
theorem d_mo_leaveNow_0 : decode prog_7_method_53_code 0 = .ok (.sipush 144, 3) := by decide +kernel
theorem d_mo_leaveNow_3 : decode prog_7_method_53_code 3 = .ok (.iload_n 3, 1) := by decide +kernel
theorem d_mo_leaveNow_4 : decode prog_7_method_53_code 4 = .ok (.imul, 1) := by decide +kernel
theorem d_mo_leaveNow_5 : decode prog_7_method_53_code 5 = .ok (.istore 6, 2) := by decide +kernel
theorem d_mo_leaveNow_7 : decode prog_7_method_53_code 7 = .ok (.iload 6, 2) := by decide +kernel
theorem d_mo_leaveNow_9 : decode prog_7_method_53_code 9 = .ok (.sipush 144, 3) := by decide +kernel
theorem d_mo_leaveNow_12 : decode prog_7_method_53_code 12 = .ok (.iload_n 3, 1) := by decide +kernel
theorem d_mo_leaveNow_13 : decode prog_7_method_53_code 13 = .ok (.iconst 1, 1) := by decide +kernel
theorem d_mo_leaveNow_14 : decode prog_7_method_53_code 14 = .ok (.iadd, 1) := by decide +kernel
theorem d_mo_leaveNow_15 : decode prog_7_method_53_code 15 = .ok (.imul, 1) := by decide +kernel
theorem d_mo_leaveNow_16 : decode prog_7_method_53_code 16 = .ok (.if_icmp .ge 47, 3) := by decide +kernel
theorem d_mo_leaveNow_19 : decode prog_7_method_53_code 19 = .ok (.aload_n 0, 1) := by decide +kernel
theorem d_mo_leaveNow_20 : decode prog_7_method_53_code 20 = .ok (.iload_n 1, 1) := by decide +kernel
theorem d_mo_leaveNow_21 : decode prog_7_method_53_code 21 = .ok (.iload_n 2, 1) := by decide +kernel
theorem d_mo_leaveNow_22 : decode prog_7_method_53_code 22 = .ok (.iload 6, 2) := by decide +kernel
theorem d_mo_leaveNow_24 : decode prog_7_method_53_code 24 = .ok (.iload 4, 2) := by decide +kernel
theorem d_mo_leaveNow_26 : decode prog_7_method_53_code 26 = .ok (.invokevirtual 220, 3) := by decide +kernel
theorem d_mo_leaveNow_29 : decode prog_7_method_53_code 29 = .ok (.istore 7, 2) := by decide +kernel
theorem d_mo_leaveNow_31 : decode prog_7_method_53_code 31 = .ok (.iload 7, 2) := by decide +kernel
theorem d_mo_leaveNow_33 : decode prog_7_method_53_code 33 = .ok (.sipush (-10001), 3) := by decide +kernel
theorem d_mo_leaveNow_36 : decode prog_7_method_53_code 36 = .ok (.if_icmp .eq 21, 3) := by decide +kernel
theorem d_mo_leaveNow_39 : decode prog_7_method_53_code 39 = .ok (.aload_n 0, 1) := by decide +kernel
theorem d_mo_leaveNow_40 : decode prog_7_method_53_code 40 = .ok (.iload_n 2, 1) := by decide +kernel
theorem d_mo_leaveNow_41 : decode prog_7_method_53_code 41 = .ok (.iload 6, 2) := by decide +kernel
theorem d_mo_leaveNow_43 : decode prog_7_method_53_code 43 = .ok (.iload 7, 2) := by decide +kernel
theorem d_mo_leaveNow_45 : decode prog_7_method_53_code 45 = .ok (.iadd, 1) := by decide +kernel
theorem d_mo_leaveNow_46 : decode prog_7_method_53_code 46 = .ok (.invokevirtual 185, 3) := by decide +kernel
theorem d_mo_leaveNow_49 : decode prog_7_method_53_code 49 = .ok (.iload 5, 2) := by decide +kernel
theorem d_mo_leaveNow_51 : decode prog_7_method_53_code 51 = .ok (.if_icmp .lt 6, 3) := by decide +kernel
theorem d_mo_leaveNow_54 : decode prog_7_method_53_code 54 = .ok (.iload 6, 2) := by decide +kernel
theorem d_mo_leaveNow_56 : decode prog_7_method_53_code 56 = .ok (.ireturn, 1) := by decide +kernel
theorem d_mo_leaveNow_57 : decode prog_7_method_53_code 57 = .ok (.iinc 6 1, 3) := by decide +kernel
theorem d_mo_leaveNow_60 : decode prog_7_method_53_code 60 = .ok (.goto (-53), 3) := by decide +kernel
theorem d_mo_leaveNow_63 : decode prog_7_method_53_code 63 = .ok (.sipush (-10001), 3) := by decide +kernel
theorem d_mo_leaveNow_66 : decode prog_7_method_53_code 66 = .ok (.ireturn, 1) := by decide +kernel
theorem d_mo_leave_0 : decode prog_7_method_54_code 0 = .ok (.aload_n 0, 1) := by decide +kernel
theorem d_mo_leave_1 : decode prog_7_method_54_code 1 = .ok (.iload_n 1, 1) := by decide +kernel
theorem d_mo_leave_2 : decode prog_7_method_54_code 2 = .ok (.invokevirtual 147, 3) := by decide +kernel
theorem d_mo_leave_5 : decode prog_7_method_54_code 5 = .ok (.ifCond .eq 11, 3) := by decide +kernel
theorem d_mo_leave_8 : decode prog_7_method_54_code 8 = .ok (.aload_n 0, 1) := by decide +kernel
theorem d_mo_leave_9 : decode prog_7_method_54_code 9 = .ok (.iload_n 2, 1) := by decide +kernel
theorem d_mo_leave_10 : decode prog_7_method_54_code 10 = .ok (.invokevirtual 147, 3) := by decide +kernel
theorem d_mo_leave_13 : decode prog_7_method_54_code 13 = .ok (.ifCond .ne 7, 3) := by decide +kernel
theorem d_mo_leave_16 : decode prog_7_method_54_code 16 = .ok (.sipush (-10101), 3) := by decide +kernel
theorem d_mo_leave_19 : decode prog_7_method_54_code 19 = .ok (.ireturn, 1) := by decide +kernel
theorem d_mo_leave_20 : decode prog_7_method_54_code 20 = .ok (.iload_n 3, 1) := by decide +kernel
theorem d_mo_leave_21 : decode prog_7_method_54_code 21 = .ok (.invokestatic 194, 3) := by decide +kernel
theorem d_mo_leave_24 : decode prog_7_method_54_code 24 = .ok (.ifCond .eq 33, 3) := by decide +kernel
theorem d_mo_leave_27 : decode prog_7_method_54_code 27 = .ok (.iload 4, 2) := by decide +kernel
theorem d_mo_leave_29 : decode prog_7_method_54_code 29 = .ok (.invokestatic 217, 3) := by decide +kernel
theorem d_mo_leave_32 : decode prog_7_method_54_code 32 = .ok (.ifCond .eq 25, 3) := by decide +kernel
theorem d_mo_leave_35 : decode prog_7_method_54_code 35 = .ok (.iload 5, 2) := by decide +kernel
theorem d_mo_leave_37 : decode prog_7_method_54_code 37 = .ok (.invokestatic 201, 3) := by decide +kernel
theorem d_mo_leave_40 : decode prog_7_method_54_code 40 = .ok (.ifCond .eq 17, 3) := by decide +kernel
theorem d_mo_leave_43 : decode prog_7_method_54_code 43 = .ok (.aload_n 0, 1) := by decide +kernel
theorem d_mo_leave_44 : decode prog_7_method_54_code 44 = .ok (.iload_n 1, 1) := by decide +kernel
theorem d_mo_leave_45 : decode prog_7_method_54_code 45 = .ok (.iload_n 2, 1) := by decide +kernel
theorem d_mo_leave_46 : decode prog_7_method_54_code 46 = .ok (.iload_n 3, 1) := by decide +kernel
theorem d_mo_leave_47 : decode prog_7_method_54_code 47 = .ok (.iload 4, 2) := by decide +kernel
theorem d_mo_leave_49 : decode prog_7_method_54_code 49 = .ok (.iload 5, 2) := by decide +kernel
theorem d_mo_leave_51 : decode prog_7_method_54_code 51 = .ok (.invokevirtual 223, 3) := by decide +kernel
theorem d_mo_leave_54 : decode prog_7_method_54_code 54 = .ok (.goto 6, 3) := by decide +kernel
theorem d_mo_leave_57 : decode prog_7_method_54_code 57 = .ok (.sipush (-10102), 3) := by decide +kernel
theorem d_mo_leave_60 : decode prog_7_method_54_code 60 = .ok (.ireturn, 1) := by decide +kernel
theorem d_mo_mean_0 : decode prog_7_method_55_code 0 = .ok (.aload_n 0, 1) := by decide +kernel
theorem d_mo_mean_1 : decode prog_7_method_55_code 1 = .ok (.iload_n 1, 1) := by decide +kernel
theorem d_mo_mean_2 : decode prog_7_method_55_code 2 = .ok (.invokevirtual 147, 3) := by decide +kernel
theorem d_mo_mean_5 : decode prog_7_method_55_code 5 = .ok (.ifCond .ne 7, 3) := by decide +kernel
theorem d_mo_mean_8 : decode prog_7_method_55_code 8 = .ok (.sipush (-10101), 3) := by decide +kernel
theorem d_mo_mean_11 : decode prog_7_method_55_code 11 = .ok (.ireturn, 1) := by decide +kernel
theorem d_mo_mean_12 : decode prog_7_method_55_code 12 = .ok (.iload_n 2, 1) := by decide +kernel
theorem d_mo_mean_13 : decode prog_7_method_55_code 13 = .ok (.invokestatic 226, 3) := by decide +kernel
theorem d_mo_mean_16 : decode prog_7_method_55_code 16 = .ok (.ifCond .ne 7, 3) := by decide +kernel
theorem d_mo_mean_19 : decode prog_7_method_55_code 19 = .ok (.sipush (-10102), 3) := by decide +kernel
theorem d_mo_mean_22 : decode prog_7_method_55_code 22 = .ok (.ireturn, 1) := by decide +kernel
theorem d_mo_mean_23 : decode prog_7_method_55_code 23 = .ok (.aload_n 0, 1) := by decide +kernel
theorem d_mo_mean_24 : decode prog_7_method_55_code 24 = .ok (.getfield 13, 3) := by decide +kernel
theorem d_mo_mean_27 : decode prog_7_method_55_code 27 = .ok (.iload_n 1, 1) := by decide +kernel
theorem d_mo_mean_28 : decode prog_7_method_55_code 28 = .ok (.iaload, 1) := by decide +kernel
theorem d_mo_mean_29 : decode prog_7_method_55_code 29 = .ok (.istore_n 3, 1) := by decide +kernel
theorem d_mo_mean_30 : decode prog_7_method_55_code 30 = .ok (.aload_n 0, 1) := by decide +kernel
theorem d_mo_mean_31 : decode prog_7_method_55_code 31 = .ok (.getfield 13, 3) := by decide +kernel
theorem d_mo_mean_34 : decode prog_7_method_55_code 34 = .ok (.iload_n 1, 1) := by decide +kernel
theorem d_mo_mean_35 : decode prog_7_method_55_code 35 = .ok (.iload_n 2, 1) := by decide +kernel
theorem d_mo_mean_36 : decode prog_7_method_55_code 36 = .ok (.iastore, 1) := by decide +kernel
theorem d_mo_mean_37 : decode prog_7_method_55_code 37 = .ok (.iload_n 3, 1) := by decide +kernel
theorem d_mo_mean_38 : decode prog_7_method_55_code 38 = .ok (.ireturn, 1) := by decide +kernel
theorem d_mo_mark_0 : decode prog_7_method_56_code 0 = .ok (.aload_n 0, 1) := by decide +kernel
theorem d_mo_mark_1 : decode prog_7_method_56_code 1 = .ok (.iload_n 1, 1) := by decide +kernel
theorem d_mo_mark_2 : decode prog_7_method_56_code 2 = .ok (.invokevirtual 147, 3) := by decide +kernel
theorem d_mo_mark_5 : decode prog_7_method_56_code 5 = .ok (.ifCond .ne 7, 3) := by decide +kernel
theorem d_mo_mark_8 : decode prog_7_method_56_code 8 = .ok (.sipush (-10101), 3) := by decide +kernel
theorem d_mo_mark_11 : decode prog_7_method_56_code 11 = .ok (.ireturn, 1) := by decide +kernel
theorem d_mo_mark_12 : decode prog_7_method_56_code 12 = .ok (.iload_n 2, 1) := by decide +kernel
theorem d_mo_mark_13 : decode prog_7_method_56_code 13 = .ok (.invokestatic 226, 3) := by decide +kernel
theorem d_mo_mark_16 : decode prog_7_method_56_code 16 = .ok (.ifCond .ne 7, 3) := by decide +kernel
theorem d_mo_mark_19 : decode prog_7_method_56_code 19 = .ok (.sipush (-10102), 3) := by decide +kernel
theorem d_mo_mark_22 : decode prog_7_method_56_code 22 = .ok (.ireturn, 1) := by decide +kernel
theorem d_mo_mark_23 : decode prog_7_method_56_code 23 = .ok (.aload_n 0, 1) := by decide +kernel
theorem d_mo_mark_24 : decode prog_7_method_56_code 24 = .ok (.getfield 16, 3) := by decide +kernel
theorem d_mo_mark_27 : decode prog_7_method_56_code 27 = .ok (.iload_n 1, 1) := by decide +kernel
theorem d_mo_mark_28 : decode prog_7_method_56_code 28 = .ok (.iaload, 1) := by decide +kernel
theorem d_mo_mark_29 : decode prog_7_method_56_code 29 = .ok (.istore_n 3, 1) := by decide +kernel
theorem d_mo_mark_30 : decode prog_7_method_56_code 30 = .ok (.aload_n 0, 1) := by decide +kernel
theorem d_mo_mark_31 : decode prog_7_method_56_code 31 = .ok (.getfield 16, 3) := by decide +kernel
theorem d_mo_mark_34 : decode prog_7_method_56_code 34 = .ok (.iload_n 1, 1) := by decide +kernel
theorem d_mo_mark_35 : decode prog_7_method_56_code 35 = .ok (.iload_n 2, 1) := by decide +kernel
theorem d_mo_mark_36 : decode prog_7_method_56_code 36 = .ok (.iastore, 1) := by decide +kernel
theorem d_mo_mark_37 : decode prog_7_method_56_code 37 = .ok (.iload_n 3, 1) := by decide +kernel
theorem d_mo_mark_38 : decode prog_7_method_56_code 38 = .ok (.ireturn, 1) := by decide +kernel
theorem d_mo_ratio_0 : decode prog_7_method_57_code 0 = .ok (.aload_n 0, 1) := by decide +kernel
theorem d_mo_ratio_1 : decode prog_7_method_57_code 1 = .ok (.iload_n 1, 1) := by decide +kernel
theorem d_mo_ratio_2 : decode prog_7_method_57_code 2 = .ok (.invokevirtual 147, 3) := by decide +kernel
theorem d_mo_ratio_5 : decode prog_7_method_57_code 5 = .ok (.ifCond .ne 7, 3) := by decide +kernel
theorem d_mo_ratio_8 : decode prog_7_method_57_code 8 = .ok (.sipush (-10101), 3) := by decide +kernel
theorem d_mo_ratio_11 : decode prog_7_method_57_code 11 = .ok (.ireturn, 1) := by decide +kernel
theorem d_mo_ratio_12 : decode prog_7_method_57_code 12 = .ok (.iload_n 2, 1) := by decide +kernel
theorem d_mo_ratio_13 : decode prog_7_method_57_code 13 = .ok (.invokestatic 226, 3) := by decide +kernel
theorem d_mo_ratio_16 : decode prog_7_method_57_code 16 = .ok (.ifCond .ne 7, 3) := by decide +kernel
theorem d_mo_ratio_19 : decode prog_7_method_57_code 19 = .ok (.sipush (-10102), 3) := by decide +kernel
theorem d_mo_ratio_22 : decode prog_7_method_57_code 22 = .ok (.ireturn, 1) := by decide +kernel
theorem d_mo_ratio_23 : decode prog_7_method_57_code 23 = .ok (.aload_n 0, 1) := by decide +kernel
theorem d_mo_ratio_24 : decode prog_7_method_57_code 24 = .ok (.getfield 19, 3) := by decide +kernel
theorem d_mo_ratio_27 : decode prog_7_method_57_code 27 = .ok (.iload_n 1, 1) := by decide +kernel
theorem d_mo_ratio_28 : decode prog_7_method_57_code 28 = .ok (.iaload, 1) := by decide +kernel
theorem d_mo_ratio_29 : decode prog_7_method_57_code 29 = .ok (.istore_n 3, 1) := by decide +kernel
theorem d_mo_ratio_30 : decode prog_7_method_57_code 30 = .ok (.aload_n 0, 1) := by decide +kernel
theorem d_mo_ratio_31 : decode prog_7_method_57_code 31 = .ok (.getfield 19, 3) := by decide +kernel
theorem d_mo_ratio_34 : decode prog_7_method_57_code 34 = .ok (.iload_n 1, 1) := by decide +kernel
theorem d_mo_ratio_35 : decode prog_7_method_57_code 35 = .ok (.iload_n 2, 1) := by decide +kernel
theorem d_mo_ratio_36 : decode prog_7_method_57_code 36 = .ok (.iastore, 1) := by decide +kernel
theorem d_mo_ratio_37 : decode prog_7_method_57_code 37 = .ok (.iload_n 3, 1) := by decide +kernel
theorem d_mo_ratio_38 : decode prog_7_method_57_code 38 = .ok (.ireturn, 1) := by decide +kernel
theorem d_mo_add_0 : decode prog_7_method_58_code 0 = .ok (.aload_n 0, 1) := by decide +kernel
theorem d_mo_add_1 : decode prog_7_method_58_code 1 = .ok (.iload_n 1, 1) := by decide +kernel
theorem d_mo_add_2 : decode prog_7_method_58_code 2 = .ok (.invokevirtual 147, 3) := by decide +kernel
theorem d_mo_add_5 : decode prog_7_method_58_code 5 = .ok (.ifCond .ne 7, 3) := by decide +kernel
theorem d_mo_add_8 : decode prog_7_method_58_code 8 = .ok (.sipush (-10101), 3) := by decide +kernel
theorem d_mo_add_11 : decode prog_7_method_58_code 11 = .ok (.ireturn, 1) := by decide +kernel
theorem d_mo_add_12 : decode prog_7_method_58_code 12 = .ok (.iload_n 2, 1) := by decide +kernel
theorem d_mo_add_13 : decode prog_7_method_58_code 13 = .ok (.iconst 1, 1) := by decide +kernel
theorem d_mo_add_14 : decode prog_7_method_58_code 14 = .ok (.bipush 99, 2) := by decide +kernel
theorem d_mo_add_16 : decode prog_7_method_58_code 16 = .ok (.invokestatic 93, 3) := by decide +kernel
theorem d_mo_add_19 : decode prog_7_method_58_code 19 = .ok (.ifCond .eq 21, 3) := by decide +kernel
theorem d_mo_add_22 : decode prog_7_method_58_code 22 = .ok (.iload_n 3, 1) := by decide +kernel
theorem d_mo_add_23 : decode prog_7_method_58_code 23 = .ok (.invokestatic 226, 3) := by decide +kernel
theorem d_mo_add_26 : decode prog_7_method_58_code 26 = .ok (.ifCond .eq 14, 3) := by decide +kernel
theorem d_mo_add_29 : decode prog_7_method_58_code 29 = .ok (.iload 4, 2) := by decide +kernel
theorem d_mo_add_31 : decode prog_7_method_58_code 31 = .ok (.iconst 0, 1) := by decide +kernel
theorem d_mo_add_32 : decode prog_7_method_58_code 32 = .ok (.bipush 63, 2) := by decide +kernel
theorem d_mo_add_34 : decode prog_7_method_58_code 34 = .ok (.invokestatic 93, 3) := by decide +kernel
theorem d_mo_add_37 : decode prog_7_method_58_code 37 = .ok (.ifCond .ne 7, 3) := by decide +kernel
theorem d_mo_add_40 : decode prog_7_method_58_code 40 = .ok (.sipush (-10102), 3) := by decide +kernel
theorem d_mo_add_43 : decode prog_7_method_58_code 43 = .ok (.ireturn, 1) := by decide +kernel
theorem d_mo_add_44 : decode prog_7_method_58_code 44 = .ok (.aload_n 0, 1) := by decide +kernel
theorem d_mo_add_45 : decode prog_7_method_58_code 45 = .ok (.getfield 22, 3) := by decide +kernel
theorem d_mo_add_48 : decode prog_7_method_58_code 48 = .ok (.iload_n 1, 1) := by decide +kernel
theorem d_mo_add_49 : decode prog_7_method_58_code 49 = .ok (.iaload, 1) := by decide +kernel
theorem d_mo_add_50 : decode prog_7_method_58_code 50 = .ok (.iconst 3, 1) := by decide +kernel
theorem d_mo_add_51 : decode prog_7_method_58_code 51 = .ok (.if_icmp .ne 7, 3) := by decide +kernel
theorem d_mo_add_54 : decode prog_7_method_58_code 54 = .ok (.sipush (-10104), 3) := by decide +kernel
theorem d_mo_add_57 : decode prog_7_method_58_code 57 = .ok (.ireturn, 1) := by decide +kernel
theorem d_mo_add_58 : decode prog_7_method_58_code 58 = .ok (.bipush 9, 2) := by decide +kernel
theorem d_mo_add_60 : decode prog_7_method_58_code 60 = .ok (.iload_n 1, 1) := by decide +kernel
theorem d_mo_add_61 : decode prog_7_method_58_code 61 = .ok (.imul, 1) := by decide +kernel
theorem d_mo_add_62 : decode prog_7_method_58_code 62 = .ok (.iconst 3, 1) := by decide +kernel
theorem d_mo_add_63 : decode prog_7_method_58_code 63 = .ok (.aload_n 0, 1) := by decide +kernel
theorem d_mo_add_64 : decode prog_7_method_58_code 64 = .ok (.getfield 22, 3) := by decide +kernel
theorem d_mo_add_67 : decode prog_7_method_58_code 67 = .ok (.iload_n 1, 1) := by decide +kernel
theorem d_mo_add_68 : decode prog_7_method_58_code 68 = .ok (.iaload, 1) := by decide +kernel
theorem d_mo_add_69 : decode prog_7_method_58_code 69 = .ok (.imul, 1) := by decide +kernel
theorem d_mo_add_70 : decode prog_7_method_58_code 70 = .ok (.iadd, 1) := by decide +kernel
theorem d_mo_add_71 : decode prog_7_method_58_code 71 = .ok (.istore 5, 2) := by decide +kernel
theorem d_mo_add_73 : decode prog_7_method_58_code 73 = .ok (.aload_n 0, 1) := by decide +kernel
theorem d_mo_add_74 : decode prog_7_method_58_code 74 = .ok (.getfield 25, 3) := by decide +kernel
theorem d_mo_add_77 : decode prog_7_method_58_code 77 = .ok (.iload 5, 2) := by decide +kernel
theorem d_mo_add_79 : decode prog_7_method_58_code 79 = .ok (.iload_n 2, 1) := by decide +kernel
theorem d_mo_add_80 : decode prog_7_method_58_code 80 = .ok (.iastore, 1) := by decide +kernel
theorem d_mo_add_81 : decode prog_7_method_58_code 81 = .ok (.aload_n 0, 1) := by decide +kernel
theorem d_mo_add_82 : decode prog_7_method_58_code 82 = .ok (.getfield 25, 3) := by decide +kernel
theorem d_mo_add_85 : decode prog_7_method_58_code 85 = .ok (.iload 5, 2) := by decide +kernel
theorem d_mo_add_87 : decode prog_7_method_58_code 87 = .ok (.iconst 1, 1) := by decide +kernel
theorem d_mo_add_88 : decode prog_7_method_58_code 88 = .ok (.iadd, 1) := by decide +kernel
theorem d_mo_add_89 : decode prog_7_method_58_code 89 = .ok (.iload_n 3, 1) := by decide +kernel
theorem d_mo_add_90 : decode prog_7_method_58_code 90 = .ok (.iastore, 1) := by decide +kernel
theorem d_mo_add_91 : decode prog_7_method_58_code 91 = .ok (.aload_n 0, 1) := by decide +kernel
theorem d_mo_add_92 : decode prog_7_method_58_code 92 = .ok (.getfield 25, 3) := by decide +kernel
theorem d_mo_add_95 : decode prog_7_method_58_code 95 = .ok (.iload 5, 2) := by decide +kernel
theorem d_mo_add_97 : decode prog_7_method_58_code 97 = .ok (.iconst 2, 1) := by decide +kernel
theorem d_mo_add_98 : decode prog_7_method_58_code 98 = .ok (.iadd, 1) := by decide +kernel
theorem d_mo_add_99 : decode prog_7_method_58_code 99 = .ok (.iload 4, 2) := by decide +kernel
theorem d_mo_add_101 : decode prog_7_method_58_code 101 = .ok (.iastore, 1) := by decide +kernel
theorem d_mo_add_102 : decode prog_7_method_58_code 102 = .ok (.aload_n 0, 1) := by decide +kernel
theorem d_mo_add_103 : decode prog_7_method_58_code 103 = .ok (.getfield 22, 3) := by decide +kernel
theorem d_mo_add_106 : decode prog_7_method_58_code 106 = .ok (.iload_n 1, 1) := by decide +kernel
theorem d_mo_add_107 : decode prog_7_method_58_code 107 = .ok (.dup2, 1) := by decide +kernel
theorem d_mo_add_108 : decode prog_7_method_58_code 108 = .ok (.iaload, 1) := by decide +kernel
theorem d_mo_add_109 : decode prog_7_method_58_code 109 = .ok (.iconst 1, 1) := by decide +kernel
theorem d_mo_add_110 : decode prog_7_method_58_code 110 = .ok (.iadd, 1) := by decide +kernel
theorem d_mo_add_111 : decode prog_7_method_58_code 111 = .ok (.iastore, 1) := by decide +kernel
theorem d_mo_add_112 : decode prog_7_method_58_code 112 = .ok (.aload_n 0, 1) := by decide +kernel
theorem d_mo_add_113 : decode prog_7_method_58_code 113 = .ok (.getfield 22, 3) := by decide +kernel
theorem d_mo_add_116 : decode prog_7_method_58_code 116 = .ok (.iload_n 1, 1) := by decide +kernel
theorem d_mo_add_117 : decode prog_7_method_58_code 117 = .ok (.iaload, 1) := by decide +kernel
theorem d_mo_add_118 : decode prog_7_method_58_code 118 = .ok (.ireturn, 1) := by decide +kernel
theorem d_mo_take_0 : decode prog_7_method_59_code 0 = .ok (.aload_n 0, 1) := by decide +kernel
theorem d_mo_take_1 : decode prog_7_method_59_code 1 = .ok (.iload_n 1, 1) := by decide +kernel
theorem d_mo_take_2 : decode prog_7_method_59_code 2 = .ok (.iload_n 2, 1) := by decide +kernel
theorem d_mo_take_3 : decode prog_7_method_59_code 3 = .ok (.invokevirtual 160, 3) := by decide +kernel
theorem d_mo_take_6 : decode prog_7_method_59_code 6 = .ok (.ifCond .ne 7, 3) := by decide +kernel
theorem d_mo_take_9 : decode prog_7_method_59_code 9 = .ok (.sipush (-10101), 3) := by decide +kernel
theorem d_mo_take_12 : decode prog_7_method_59_code 12 = .ok (.ireturn, 1) := by decide +kernel
theorem d_mo_take_13 : decode prog_7_method_59_code 13 = .ok (.bipush 9, 2) := by decide +kernel
theorem d_mo_take_15 : decode prog_7_method_59_code 15 = .ok (.iload_n 1, 1) := by decide +kernel
theorem d_mo_take_16 : decode prog_7_method_59_code 16 = .ok (.imul, 1) := by decide +kernel
theorem d_mo_take_17 : decode prog_7_method_59_code 17 = .ok (.iconst 3, 1) := by decide +kernel
theorem d_mo_take_18 : decode prog_7_method_59_code 18 = .ok (.iload_n 2, 1) := by decide +kernel
theorem d_mo_take_19 : decode prog_7_method_59_code 19 = .ok (.imul, 1) := by decide +kernel
theorem d_mo_take_20 : decode prog_7_method_59_code 20 = .ok (.iadd, 1) := by decide +kernel
theorem d_mo_take_21 : decode prog_7_method_59_code 21 = .ok (.istore_n 3, 1) := by decide +kernel
theorem d_mo_take_22 : decode prog_7_method_59_code 22 = .ok (.iload_n 3, 1) := by decide +kernel
theorem d_mo_take_23 : decode prog_7_method_59_code 23 = .ok (.bipush 9, 2) := by decide +kernel
theorem d_mo_take_25 : decode prog_7_method_59_code 25 = .ok (.iload_n 1, 1) := by decide +kernel
theorem d_mo_take_26 : decode prog_7_method_59_code 26 = .ok (.imul, 1) := by decide +kernel
theorem d_mo_take_27 : decode prog_7_method_59_code 27 = .ok (.bipush 6, 2) := by decide +kernel
theorem d_mo_take_29 : decode prog_7_method_59_code 29 = .ok (.iadd, 1) := by decide +kernel
theorem d_mo_take_30 : decode prog_7_method_59_code 30 = .ok (.if_icmp .ge 23, 3) := by decide +kernel
theorem d_mo_take_33 : decode prog_7_method_59_code 33 = .ok (.aload_n 0, 1) := by decide +kernel
theorem d_mo_take_34 : decode prog_7_method_59_code 34 = .ok (.getfield 25, 3) := by decide +kernel
theorem d_mo_take_37 : decode prog_7_method_59_code 37 = .ok (.iload_n 3, 1) := by decide +kernel
theorem d_mo_take_38 : decode prog_7_method_59_code 38 = .ok (.aload_n 0, 1) := by decide +kernel
theorem d_mo_take_39 : decode prog_7_method_59_code 39 = .ok (.getfield 25, 3) := by decide +kernel
theorem d_mo_take_42 : decode prog_7_method_59_code 42 = .ok (.iload_n 3, 1) := by decide +kernel
theorem d_mo_take_43 : decode prog_7_method_59_code 43 = .ok (.iconst 3, 1) := by decide +kernel
theorem d_mo_take_44 : decode prog_7_method_59_code 44 = .ok (.iadd, 1) := by decide +kernel
theorem d_mo_take_45 : decode prog_7_method_59_code 45 = .ok (.iaload, 1) := by decide +kernel
theorem d_mo_take_46 : decode prog_7_method_59_code 46 = .ok (.iastore, 1) := by decide +kernel
theorem d_mo_take_47 : decode prog_7_method_59_code 47 = .ok (.iinc 3 1, 3) := by decide +kernel
theorem d_mo_take_50 : decode prog_7_method_59_code 50 = .ok (.goto (-28), 3) := by decide +kernel
theorem d_mo_take_53 : decode prog_7_method_59_code 53 = .ok (.aload_n 0, 1) := by decide +kernel
theorem d_mo_take_54 : decode prog_7_method_59_code 54 = .ok (.getfield 22, 3) := by decide +kernel
theorem d_mo_take_57 : decode prog_7_method_59_code 57 = .ok (.iload_n 1, 1) := by decide +kernel
theorem d_mo_take_58 : decode prog_7_method_59_code 58 = .ok (.dup2, 1) := by decide +kernel
theorem d_mo_take_59 : decode prog_7_method_59_code 59 = .ok (.iaload, 1) := by decide +kernel
theorem d_mo_take_60 : decode prog_7_method_59_code 60 = .ok (.iconst 1, 1) := by decide +kernel
theorem d_mo_take_61 : decode prog_7_method_59_code 61 = .ok (.isub, 1) := by decide +kernel
theorem d_mo_take_62 : decode prog_7_method_59_code 62 = .ok (.iastore, 1) := by decide +kernel
theorem d_mo_take_63 : decode prog_7_method_59_code 63 = .ok (.aload_n 0, 1) := by decide +kernel
theorem d_mo_take_64 : decode prog_7_method_59_code 64 = .ok (.getfield 22, 3) := by decide +kernel
theorem d_mo_take_67 : decode prog_7_method_59_code 67 = .ok (.iload_n 1, 1) := by decide +kernel
theorem d_mo_take_68 : decode prog_7_method_59_code 68 = .ok (.iaload, 1) := by decide +kernel
theorem d_mo_take_69 : decode prog_7_method_59_code 69 = .ok (.ireturn, 1) := by decide +kernel
theorem d_mo_be_0 : decode prog_7_method_60_code 0 = .ok (.aload_n 0, 1) := by decide +kernel
theorem d_mo_be_1 : decode prog_7_method_60_code 1 = .ok (.iload_n 1, 1) := by decide +kernel
theorem d_mo_be_2 : decode prog_7_method_60_code 2 = .ok (.invokevirtual 147, 3) := by decide +kernel
theorem d_mo_be_5 : decode prog_7_method_60_code 5 = .ok (.ifCond .ne 7, 3) := by decide +kernel
theorem d_mo_be_8 : decode prog_7_method_60_code 8 = .ok (.sipush (-10101), 3) := by decide +kernel
theorem d_mo_be_11 : decode prog_7_method_60_code 11 = .ok (.ireturn, 1) := by decide +kernel
theorem d_mo_be_12 : decode prog_7_method_60_code 12 = .ok (.iload_n 2, 1) := by decide +kernel
theorem d_mo_be_13 : decode prog_7_method_60_code 13 = .ok (.iconst 0, 1) := by decide +kernel
theorem d_mo_be_14 : decode prog_7_method_60_code 14 = .ok (.iconst 4, 1) := by decide +kernel
theorem d_mo_be_15 : decode prog_7_method_60_code 15 = .ok (.invokestatic 93, 3) := by decide +kernel
theorem d_mo_be_18 : decode prog_7_method_60_code 18 = .ok (.ifCond .eq 12, 3) := by decide +kernel
theorem d_mo_be_21 : decode prog_7_method_60_code 21 = .ok (.iload_n 1, 1) := by decide +kernel
theorem d_mo_be_22 : decode prog_7_method_60_code 22 = .ok (.ifCond .ne 12, 3) := by decide +kernel
theorem d_mo_be_25 : decode prog_7_method_60_code 25 = .ok (.iload_n 2, 1) := by decide +kernel
theorem d_mo_be_26 : decode prog_7_method_60_code 26 = .ok (.iconst 3, 1) := by decide +kernel
theorem d_mo_be_27 : decode prog_7_method_60_code 27 = .ok (.if_icmp .ne 7, 3) := by decide +kernel
theorem d_mo_be_30 : decode prog_7_method_60_code 30 = .ok (.sipush (-10102), 3) := by decide +kernel
theorem d_mo_be_33 : decode prog_7_method_60_code 33 = .ok (.ireturn, 1) := by decide +kernel
theorem d_mo_be_34 : decode prog_7_method_60_code 34 = .ok (.aload_n 0, 1) := by decide +kernel
theorem d_mo_be_35 : decode prog_7_method_60_code 35 = .ok (.getfield 7, 3) := by decide +kernel
theorem d_mo_be_38 : decode prog_7_method_60_code 38 = .ok (.iload_n 1, 1) := by decide +kernel
theorem d_mo_be_39 : decode prog_7_method_60_code 39 = .ok (.iaload, 1) := by decide +kernel
theorem d_mo_be_40 : decode prog_7_method_60_code 40 = .ok (.istore_n 3, 1) := by decide +kernel
theorem d_mo_be_41 : decode prog_7_method_60_code 41 = .ok (.aload_n 0, 1) := by decide +kernel
theorem d_mo_be_42 : decode prog_7_method_60_code 42 = .ok (.getfield 7, 3) := by decide +kernel
theorem d_mo_be_45 : decode prog_7_method_60_code 45 = .ok (.iload_n 1, 1) := by decide +kernel
theorem d_mo_be_46 : decode prog_7_method_60_code 46 = .ok (.iload_n 2, 1) := by decide +kernel
theorem d_mo_be_47 : decode prog_7_method_60_code 47 = .ok (.iastore, 1) := by decide +kernel
theorem d_mo_be_48 : decode prog_7_method_60_code 48 = .ok (.iload_n 3, 1) := by decide +kernel
theorem d_mo_be_49 : decode prog_7_method_60_code 49 = .ok (.ireturn, 1) := by decide +kernel
theorem d_mo_could_0 : decode prog_7_method_61_code 0 = .ok (.iload_n 1, 1) := by decide +kernel
theorem d_mo_could_1 : decode prog_7_method_61_code 1 = .ok (.tableswitch 65 0 2 #[27, 43, 54], 27) := by decide +kernel
theorem d_mo_could_28 : decode prog_7_method_61_code 28 = .ok (.iload_n 0, 1) := by decide +kernel
theorem d_mo_could_29 : decode prog_7_method_61_code 29 = .ok (.iconst 1, 1) := by decide +kernel
theorem d_mo_could_30 : decode prog_7_method_61_code 30 = .ok (.if_icmp .eq 8, 3) := by decide +kernel
theorem d_mo_could_33 : decode prog_7_method_61_code 33 = .ok (.iload_n 0, 1) := by decide +kernel
theorem d_mo_could_34 : decode prog_7_method_61_code 34 = .ok (.iconst 2, 1) := by decide +kernel
theorem d_mo_could_35 : decode prog_7_method_61_code 35 = .ok (.if_icmp .ne 7, 3) := by decide +kernel
theorem d_mo_could_38 : decode prog_7_method_61_code 38 = .ok (.iconst 1, 1) := by decide +kernel
theorem d_mo_could_39 : decode prog_7_method_61_code 39 = .ok (.goto 4, 3) := by decide +kernel
theorem d_mo_could_42 : decode prog_7_method_61_code 42 = .ok (.iconst 0, 1) := by decide +kernel
theorem d_mo_could_43 : decode prog_7_method_61_code 43 = .ok (.ireturn, 1) := by decide +kernel
theorem d_mo_could_44 : decode prog_7_method_61_code 44 = .ok (.iload_n 0, 1) := by decide +kernel
theorem d_mo_could_45 : decode prog_7_method_61_code 45 = .ok (.iconst 2, 1) := by decide +kernel
theorem d_mo_could_46 : decode prog_7_method_61_code 46 = .ok (.if_icmp .ne 7, 3) := by decide +kernel
theorem d_mo_could_49 : decode prog_7_method_61_code 49 = .ok (.iconst 1, 1) := by decide +kernel
theorem d_mo_could_50 : decode prog_7_method_61_code 50 = .ok (.goto 4, 3) := by decide +kernel
theorem d_mo_could_53 : decode prog_7_method_61_code 53 = .ok (.iconst 0, 1) := by decide +kernel
theorem d_mo_could_54 : decode prog_7_method_61_code 54 = .ok (.ireturn, 1) := by decide +kernel
theorem d_mo_could_55 : decode prog_7_method_61_code 55 = .ok (.iload_n 0, 1) := by decide +kernel
theorem d_mo_could_56 : decode prog_7_method_61_code 56 = .ok (.iconst 3, 1) := by decide +kernel
theorem d_mo_could_57 : decode prog_7_method_61_code 57 = .ok (.if_icmp .ne 7, 3) := by decide +kernel
theorem d_mo_could_60 : decode prog_7_method_61_code 60 = .ok (.iconst 1, 1) := by decide +kernel
theorem d_mo_could_61 : decode prog_7_method_61_code 61 = .ok (.goto 4, 3) := by decide +kernel
theorem d_mo_could_64 : decode prog_7_method_61_code 64 = .ok (.iconst 0, 1) := by decide +kernel
theorem d_mo_could_65 : decode prog_7_method_61_code 65 = .ok (.ireturn, 1) := by decide +kernel
theorem d_mo_could_66 : decode prog_7_method_61_code 66 = .ok (.iload_n 0, 1) := by decide +kernel
theorem d_mo_could_67 : decode prog_7_method_61_code 67 = .ok (.iconst 4, 1) := by decide +kernel
theorem d_mo_could_68 : decode prog_7_method_61_code 68 = .ok (.if_icmp .ne 7, 3) := by decide +kernel
theorem d_mo_could_71 : decode prog_7_method_61_code 71 = .ok (.iconst 1, 1) := by decide +kernel
theorem d_mo_could_72 : decode prog_7_method_61_code 72 = .ok (.goto 4, 3) := by decide +kernel
theorem d_mo_could_75 : decode prog_7_method_61_code 75 = .ok (.iconst 0, 1) := by decide +kernel
theorem d_mo_could_76 : decode prog_7_method_61_code 76 = .ok (.ireturn, 1) := by decide +kernel
theorem d_mo_see_0 : decode prog_7_method_62_code 0 = .ok (.aload_n 0, 1) := by decide +kernel
theorem d_mo_see_1 : decode prog_7_method_62_code 1 = .ok (.iload_n 1, 1) := by decide +kernel
theorem d_mo_see_2 : decode prog_7_method_62_code 2 = .ok (.invokevirtual 147, 3) := by decide +kernel
theorem d_mo_see_5 : decode prog_7_method_62_code 5 = .ok (.ifCond .ne 7, 3) := by decide +kernel
theorem d_mo_see_8 : decode prog_7_method_62_code 8 = .ok (.sipush (-10101), 3) := by decide +kernel
theorem d_mo_see_11 : decode prog_7_method_62_code 11 = .ok (.ireturn, 1) := by decide +kernel
theorem d_mo_see_12 : decode prog_7_method_62_code 12 = .ok (.iload_n 2, 1) := by decide +kernel
theorem d_mo_see_13 : decode prog_7_method_62_code 13 = .ok (.iconst 0, 1) := by decide +kernel
theorem d_mo_see_14 : decode prog_7_method_62_code 14 = .ok (.iconst 3, 1) := by decide +kernel
theorem d_mo_see_15 : decode prog_7_method_62_code 15 = .ok (.invokestatic 93, 3) := by decide +kernel
theorem d_mo_see_18 : decode prog_7_method_62_code 18 = .ok (.ifCond .ne 7, 3) := by decide +kernel
theorem d_mo_see_21 : decode prog_7_method_62_code 21 = .ok (.sipush (-10102), 3) := by decide +kernel
theorem d_mo_see_24 : decode prog_7_method_62_code 24 = .ok (.ireturn, 1) := by decide +kernel
theorem d_mo_see_25 : decode prog_7_method_62_code 25 = .ok (.aload_n 0, 1) := by decide +kernel
theorem d_mo_see_26 : decode prog_7_method_62_code 26 = .ok (.getfield 144, 3) := by decide +kernel
theorem d_mo_see_29 : decode prog_7_method_62_code 29 = .ok (.bipush 6, 2) := by decide +kernel
theorem d_mo_see_31 : decode prog_7_method_62_code 31 = .ok (.if_icmp .ne 7, 3) := by decide +kernel
theorem d_mo_see_34 : decode prog_7_method_62_code 34 = .ok (.sipush (-10104), 3) := by decide +kernel
theorem d_mo_see_37 : decode prog_7_method_62_code 37 = .ok (.ireturn, 1) := by decide +kernel
theorem d_mo_see_38 : decode prog_7_method_62_code 38 = .ok (.aload_n 0, 1) := by decide +kernel
theorem d_mo_see_39 : decode prog_7_method_62_code 39 = .ok (.getfield 31, 3) := by decide +kernel
theorem d_mo_see_42 : decode prog_7_method_62_code 42 = .ok (.aload_n 0, 1) := by decide +kernel
theorem d_mo_see_43 : decode prog_7_method_62_code 43 = .ok (.getfield 144, 3) := by decide +kernel
theorem d_mo_see_46 : decode prog_7_method_62_code 46 = .ok (.iload_n 1, 1) := by decide +kernel
theorem d_mo_see_47 : decode prog_7_method_62_code 47 = .ok (.iastore, 1) := by decide +kernel
theorem d_mo_see_48 : decode prog_7_method_62_code 48 = .ok (.aload_n 0, 1) := by decide +kernel
theorem d_mo_see_49 : decode prog_7_method_62_code 49 = .ok (.getfield 34, 3) := by decide +kernel
theorem d_mo_see_52 : decode prog_7_method_62_code 52 = .ok (.aload_n 0, 1) := by decide +kernel
theorem d_mo_see_53 : decode prog_7_method_62_code 53 = .ok (.getfield 144, 3) := by decide +kernel
theorem d_mo_see_56 : decode prog_7_method_62_code 56 = .ok (.iload_n 2, 1) := by decide +kernel
theorem d_mo_see_57 : decode prog_7_method_62_code 57 = .ok (.iastore, 1) := by decide +kernel
theorem d_mo_see_58 : decode prog_7_method_62_code 58 = .ok (.aload_n 0, 1) := by decide +kernel
theorem d_mo_see_59 : decode prog_7_method_62_code 59 = .ok (.getfield 37, 3) := by decide +kernel
theorem d_mo_see_62 : decode prog_7_method_62_code 62 = .ok (.aload_n 0, 1) := by decide +kernel
theorem d_mo_see_63 : decode prog_7_method_62_code 63 = .ok (.getfield 144, 3) := by decide +kernel
theorem d_mo_see_66 : decode prog_7_method_62_code 66 = .ok (.iload_n 3, 1) := by decide +kernel
theorem d_mo_see_67 : decode prog_7_method_62_code 67 = .ok (.ifCond .eq 7, 3) := by decide +kernel
theorem d_mo_see_70 : decode prog_7_method_62_code 70 = .ok (.iconst 1, 1) := by decide +kernel
theorem d_mo_see_71 : decode prog_7_method_62_code 71 = .ok (.goto 4, 3) := by decide +kernel
theorem d_mo_see_74 : decode prog_7_method_62_code 74 = .ok (.iconst 0, 1) := by decide +kernel
theorem d_mo_see_75 : decode prog_7_method_62_code 75 = .ok (.iastore, 1) := by decide +kernel
theorem d_mo_see_76 : decode prog_7_method_62_code 76 = .ok (.aload_n 0, 1) := by decide +kernel
theorem d_mo_see_77 : decode prog_7_method_62_code 77 = .ok (.dup, 1) := by decide +kernel
theorem d_mo_see_78 : decode prog_7_method_62_code 78 = .ok (.getfield 144, 3) := by decide +kernel
theorem d_mo_see_81 : decode prog_7_method_62_code 81 = .ok (.iconst 1, 1) := by decide +kernel
theorem d_mo_see_82 : decode prog_7_method_62_code 82 = .ok (.iadd, 1) := by decide +kernel
theorem d_mo_see_83 : decode prog_7_method_62_code 83 = .ok (.putfield 144, 3) := by decide +kernel
theorem d_mo_see_86 : decode prog_7_method_62_code 86 = .ok (.aload_n 0, 1) := by decide +kernel
theorem d_mo_see_87 : decode prog_7_method_62_code 87 = .ok (.getfield 144, 3) := by decide +kernel
theorem d_mo_see_90 : decode prog_7_method_62_code 90 = .ok (.ireturn, 1) := by decide +kernel
theorem d_mo_forget_0 : decode prog_7_method_63_code 0 = .ok (.aload_n 0, 1) := by decide +kernel
theorem d_mo_forget_1 : decode prog_7_method_63_code 1 = .ok (.getfield 144, 3) := by decide +kernel
theorem d_mo_forget_4 : decode prog_7_method_63_code 4 = .ok (.istore_n 1, 1) := by decide +kernel
theorem d_mo_forget_5 : decode prog_7_method_63_code 5 = .ok (.aload_n 0, 1) := by decide +kernel
theorem d_mo_forget_6 : decode prog_7_method_63_code 6 = .ok (.iconst 0, 1) := by decide +kernel
theorem d_mo_forget_7 : decode prog_7_method_63_code 7 = .ok (.putfield 144, 3) := by decide +kernel
theorem d_mo_forget_10 : decode prog_7_method_63_code 10 = .ok (.iload_n 1, 1) := by decide +kernel
theorem d_mo_forget_11 : decode prog_7_method_63_code 11 = .ok (.ireturn, 1) := by decide +kernel
theorem d_mo_sortsOf_0 : decode prog_7_method_64_code 0 = .ok (.iconst 0, 1) := by decide +kernel
theorem d_mo_sortsOf_1 : decode prog_7_method_64_code 1 = .ok (.istore_n 2, 1) := by decide +kernel
theorem d_mo_sortsOf_2 : decode prog_7_method_64_code 2 = .ok (.iconst 0, 1) := by decide +kernel
theorem d_mo_sortsOf_3 : decode prog_7_method_64_code 3 = .ok (.istore_n 3, 1) := by decide +kernel
theorem d_mo_sortsOf_4 : decode prog_7_method_64_code 4 = .ok (.iload_n 3, 1) := by decide +kernel
theorem d_mo_sortsOf_5 : decode prog_7_method_64_code 5 = .ok (.iconst 4, 1) := by decide +kernel
theorem d_mo_sortsOf_6 : decode prog_7_method_64_code 6 = .ok (.if_icmp .gt 98, 3) := by decide +kernel
theorem d_mo_sortsOf_9 : decode prog_7_method_64_code 9 = .ok (.iconst 1, 1) := by decide +kernel
theorem d_mo_sortsOf_10 : decode prog_7_method_64_code 10 = .ok (.istore 4, 2) := by decide +kernel
theorem d_mo_sortsOf_12 : decode prog_7_method_64_code 12 = .ok (.iconst 0, 1) := by decide +kernel
theorem d_mo_sortsOf_13 : decode prog_7_method_64_code 13 = .ok (.istore 5, 2) := by decide +kernel
theorem d_mo_sortsOf_15 : decode prog_7_method_64_code 15 = .ok (.iload 5, 2) := by decide +kernel
theorem d_mo_sortsOf_17 : decode prog_7_method_64_code 17 = .ok (.aload_n 0, 1) := by decide +kernel
theorem d_mo_sortsOf_18 : decode prog_7_method_64_code 18 = .ok (.getfield 144, 3) := by decide +kernel
theorem d_mo_sortsOf_21 : decode prog_7_method_64_code 21 = .ok (.if_icmp .ge 62, 3) := by decide +kernel
theorem d_mo_sortsOf_24 : decode prog_7_method_64_code 24 = .ok (.iload 4, 2) := by decide +kernel
theorem d_mo_sortsOf_26 : decode prog_7_method_64_code 26 = .ok (.ifCond .eq 48, 3) := by decide +kernel
theorem d_mo_sortsOf_29 : decode prog_7_method_64_code 29 = .ok (.aload_n 0, 1) := by decide +kernel
theorem d_mo_sortsOf_30 : decode prog_7_method_64_code 30 = .ok (.getfield 31, 3) := by decide +kernel
theorem d_mo_sortsOf_33 : decode prog_7_method_64_code 33 = .ok (.iload 5, 2) := by decide +kernel
theorem d_mo_sortsOf_35 : decode prog_7_method_64_code 35 = .ok (.iaload, 1) := by decide +kernel
theorem d_mo_sortsOf_36 : decode prog_7_method_64_code 36 = .ok (.iload_n 1, 1) := by decide +kernel
theorem d_mo_sortsOf_37 : decode prog_7_method_64_code 37 = .ok (.if_icmp .ne 33, 3) := by decide +kernel
theorem d_mo_sortsOf_40 : decode prog_7_method_64_code 40 = .ok (.iload_n 3, 1) := by decide +kernel
theorem d_mo_sortsOf_41 : decode prog_7_method_64_code 41 = .ok (.aload_n 0, 1) := by decide +kernel
theorem d_mo_sortsOf_42 : decode prog_7_method_64_code 42 = .ok (.getfield 34, 3) := by decide +kernel
theorem d_mo_sortsOf_45 : decode prog_7_method_64_code 45 = .ok (.iload 5, 2) := by decide +kernel
theorem d_mo_sortsOf_47 : decode prog_7_method_64_code 47 = .ok (.iaload, 1) := by decide +kernel
theorem d_mo_sortsOf_48 : decode prog_7_method_64_code 48 = .ok (.invokestatic 229, 3) := by decide +kernel
theorem d_mo_sortsOf_51 : decode prog_7_method_64_code 51 = .ok (.aload_n 0, 1) := by decide +kernel
theorem d_mo_sortsOf_52 : decode prog_7_method_64_code 52 = .ok (.getfield 37, 3) := by decide +kernel
theorem d_mo_sortsOf_55 : decode prog_7_method_64_code 55 = .ok (.iload 5, 2) := by decide +kernel
theorem d_mo_sortsOf_57 : decode prog_7_method_64_code 57 = .ok (.iaload, 1) := by decide +kernel
theorem d_mo_sortsOf_58 : decode prog_7_method_64_code 58 = .ok (.iconst 1, 1) := by decide +kernel
theorem d_mo_sortsOf_59 : decode prog_7_method_64_code 59 = .ok (.if_icmp .ne 7, 3) := by decide +kernel
theorem d_mo_sortsOf_62 : decode prog_7_method_64_code 62 = .ok (.iconst 1, 1) := by decide +kernel
theorem d_mo_sortsOf_63 : decode prog_7_method_64_code 63 = .ok (.goto 4, 3) := by decide +kernel
theorem d_mo_sortsOf_66 : decode prog_7_method_64_code 66 = .ok (.iconst 0, 1) := by decide +kernel
theorem d_mo_sortsOf_67 : decode prog_7_method_64_code 67 = .ok (.if_icmp .ne 7, 3) := by decide +kernel
theorem d_mo_sortsOf_70 : decode prog_7_method_64_code 70 = .ok (.iconst 1, 1) := by decide +kernel
theorem d_mo_sortsOf_71 : decode prog_7_method_64_code 71 = .ok (.goto 4, 3) := by decide +kernel
theorem d_mo_sortsOf_74 : decode prog_7_method_64_code 74 = .ok (.iconst 0, 1) := by decide +kernel
theorem d_mo_sortsOf_75 : decode prog_7_method_64_code 75 = .ok (.istore 4, 2) := by decide +kernel
theorem d_mo_sortsOf_77 : decode prog_7_method_64_code 77 = .ok (.iinc 5 1, 3) := by decide +kernel
theorem d_mo_sortsOf_80 : decode prog_7_method_64_code 80 = .ok (.goto (-65), 3) := by decide +kernel
theorem d_mo_sortsOf_83 : decode prog_7_method_64_code 83 = .ok (.iload_n 2, 1) := by decide +kernel
theorem d_mo_sortsOf_84 : decode prog_7_method_64_code 84 = .ok (.iload 4, 2) := by decide +kernel
theorem d_mo_sortsOf_86 : decode prog_7_method_64_code 86 = .ok (.ifCond .eq 9, 3) := by decide +kernel
theorem d_mo_sortsOf_89 : decode prog_7_method_64_code 89 = .ok (.iconst 1, 1) := by decide +kernel
theorem d_mo_sortsOf_90 : decode prog_7_method_64_code 90 = .ok (.iload_n 3, 1) := by decide +kernel
theorem d_mo_sortsOf_91 : decode prog_7_method_64_code 91 = .ok (.ishl, 1) := by decide +kernel
theorem d_mo_sortsOf_92 : decode prog_7_method_64_code 92 = .ok (.goto 4, 3) := by decide +kernel
theorem d_mo_sortsOf_95 : decode prog_7_method_64_code 95 = .ok (.iconst 0, 1) := by decide +kernel
theorem d_mo_sortsOf_96 : decode prog_7_method_64_code 96 = .ok (.ior, 1) := by decide +kernel
theorem d_mo_sortsOf_97 : decode prog_7_method_64_code 97 = .ok (.istore_n 2, 1) := by decide +kernel
theorem d_mo_sortsOf_98 : decode prog_7_method_64_code 98 = .ok (.iinc 3 1, 3) := by decide +kernel
theorem d_mo_sortsOf_101 : decode prog_7_method_64_code 101 = .ok (.goto (-97), 3) := by decide +kernel
theorem d_mo_sortsOf_104 : decode prog_7_method_64_code 104 = .ok (.iload_n 2, 1) := by decide +kernel
theorem d_mo_sortsOf_105 : decode prog_7_method_64_code 105 = .ok (.ireturn, 1) := by decide +kernel
theorem d_mo_askOf_0 : decode prog_7_method_65_code 0 = .ok (.aload_n 0, 1) := by decide +kernel
theorem d_mo_askOf_1 : decode prog_7_method_65_code 1 = .ok (.iload_n 1, 1) := by decide +kernel
theorem d_mo_askOf_2 : decode prog_7_method_65_code 2 = .ok (.invokevirtual 150, 3) := by decide +kernel
theorem d_mo_askOf_5 : decode prog_7_method_65_code 5 = .ok (.istore_n 2, 1) := by decide +kernel
theorem d_mo_askOf_6 : decode prog_7_method_65_code 6 = .ok (.sipush (-10001), 3) := by decide +kernel
theorem d_mo_askOf_9 : decode prog_7_method_65_code 9 = .ok (.istore_n 3, 1) := by decide +kernel
theorem d_mo_askOf_10 : decode prog_7_method_65_code 10 = .ok (.ldc 232, 2) := by decide +kernel
theorem d_mo_askOf_12 : decode prog_7_method_65_code 12 = .ok (.istore 4, 2) := by decide +kernel
theorem d_mo_askOf_14 : decode prog_7_method_65_code 14 = .ok (.iconst 0, 1) := by decide +kernel
theorem d_mo_askOf_15 : decode prog_7_method_65_code 15 = .ok (.istore 5, 2) := by decide +kernel
theorem d_mo_askOf_17 : decode prog_7_method_65_code 17 = .ok (.iload 5, 2) := by decide +kernel
theorem d_mo_askOf_19 : decode prog_7_method_65_code 19 = .ok (.iconst 4, 1) := by decide +kernel
theorem d_mo_askOf_20 : decode prog_7_method_65_code 20 = .ok (.if_icmp .ge 115, 3) := by decide +kernel
theorem d_mo_askOf_23 : decode prog_7_method_65_code 23 = .ok (.iload_n 2, 1) := by decide +kernel
theorem d_mo_askOf_24 : decode prog_7_method_65_code 24 = .ok (.ifCond .eq 111, 3) := by decide +kernel
theorem d_mo_askOf_27 : decode prog_7_method_65_code 27 = .ok (.iconst 0, 1) := by decide +kernel
theorem d_mo_askOf_28 : decode prog_7_method_65_code 28 = .ok (.istore 6, 2) := by decide +kernel
theorem d_mo_askOf_30 : decode prog_7_method_65_code 30 = .ok (.iconst 0, 1) := by decide +kernel
theorem d_mo_askOf_31 : decode prog_7_method_65_code 31 = .ok (.istore 7, 2) := by decide +kernel
theorem d_mo_askOf_33 : decode prog_7_method_65_code 33 = .ok (.iload 7, 2) := by decide +kernel
theorem d_mo_askOf_35 : decode prog_7_method_65_code 35 = .ok (.iconst 4, 1) := by decide +kernel
theorem d_mo_askOf_36 : decode prog_7_method_65_code 36 = .ok (.if_icmp .gt 38, 3) := by decide +kernel
theorem d_mo_askOf_39 : decode prog_7_method_65_code 39 = .ok (.iload 6, 2) := by decide +kernel
theorem d_mo_askOf_41 : decode prog_7_method_65_code 41 = .ok (.iload_n 2, 1) := by decide +kernel
theorem d_mo_askOf_42 : decode prog_7_method_65_code 42 = .ok (.iload 7, 2) := by decide +kernel
theorem d_mo_askOf_44 : decode prog_7_method_65_code 44 = .ok (.invokestatic 233, 3) := by decide +kernel
theorem d_mo_askOf_47 : decode prog_7_method_65_code 47 = .ok (.ifCond .eq 17, 3) := by decide +kernel
theorem d_mo_askOf_50 : decode prog_7_method_65_code 50 = .ok (.iload 7, 2) := by decide +kernel
theorem d_mo_askOf_52 : decode prog_7_method_65_code 52 = .ok (.iload 5, 2) := by decide +kernel
theorem d_mo_askOf_54 : decode prog_7_method_65_code 54 = .ok (.invokestatic 229, 3) := by decide +kernel
theorem d_mo_askOf_57 : decode prog_7_method_65_code 57 = .ok (.ifCond .eq 7, 3) := by decide +kernel
theorem d_mo_askOf_60 : decode prog_7_method_65_code 60 = .ok (.iconst 1, 1) := by decide +kernel
theorem d_mo_askOf_61 : decode prog_7_method_65_code 61 = .ok (.goto 4, 3) := by decide +kernel
theorem d_mo_askOf_64 : decode prog_7_method_65_code 64 = .ok (.iconst 0, 1) := by decide +kernel
theorem d_mo_askOf_65 : decode prog_7_method_65_code 65 = .ok (.iadd, 1) := by decide +kernel
theorem d_mo_askOf_66 : decode prog_7_method_65_code 66 = .ok (.istore 6, 2) := by decide +kernel
theorem d_mo_askOf_68 : decode prog_7_method_65_code 68 = .ok (.iinc 7 1, 3) := by decide +kernel
theorem d_mo_askOf_71 : decode prog_7_method_65_code 71 = .ok (.goto (-38), 3) := by decide +kernel
theorem d_mo_askOf_74 : decode prog_7_method_65_code 74 = .ok (.iload_n 2, 1) := by decide +kernel
theorem d_mo_askOf_75 : decode prog_7_method_65_code 75 = .ok (.invokestatic 236, 3) := by decide +kernel
theorem d_mo_askOf_78 : decode prog_7_method_65_code 78 = .ok (.iload 6, 2) := by decide +kernel
theorem d_mo_askOf_80 : decode prog_7_method_65_code 80 = .ok (.isub, 1) := by decide +kernel
theorem d_mo_askOf_81 : decode prog_7_method_65_code 81 = .ok (.istore 7, 2) := by decide +kernel
theorem d_mo_askOf_83 : decode prog_7_method_65_code 83 = .ok (.iload 6, 2) := by decide +kernel
theorem d_mo_askOf_85 : decode prog_7_method_65_code 85 = .ok (.iload 7, 2) := by decide +kernel
theorem d_mo_askOf_87 : decode prog_7_method_65_code 87 = .ok (.if_icmp .le 8, 3) := by decide +kernel
theorem d_mo_askOf_90 : decode prog_7_method_65_code 90 = .ok (.iload 6, 2) := by decide +kernel
theorem d_mo_askOf_92 : decode prog_7_method_65_code 92 = .ok (.goto 5, 3) := by decide +kernel
theorem d_mo_askOf_95 : decode prog_7_method_65_code 95 = .ok (.iload 7, 2) := by decide +kernel
theorem d_mo_askOf_97 : decode prog_7_method_65_code 97 = .ok (.istore 8, 2) := by decide +kernel
theorem d_mo_askOf_99 : decode prog_7_method_65_code 99 = .ok (.iload 8, 2) := by decide +kernel
theorem d_mo_askOf_101 : decode prog_7_method_65_code 101 = .ok (.iload 4, 2) := by decide +kernel
theorem d_mo_askOf_103 : decode prog_7_method_65_code 103 = .ok (.if_icmp .ge 8, 3) := by decide +kernel
theorem d_mo_askOf_106 : decode prog_7_method_65_code 106 = .ok (.iload 5, 2) := by decide +kernel
theorem d_mo_askOf_108 : decode prog_7_method_65_code 108 = .ok (.goto 4, 3) := by decide +kernel
theorem d_mo_askOf_111 : decode prog_7_method_65_code 111 = .ok (.iload_n 3, 1) := by decide +kernel
theorem d_mo_askOf_112 : decode prog_7_method_65_code 112 = .ok (.istore_n 3, 1) := by decide +kernel
theorem d_mo_askOf_113 : decode prog_7_method_65_code 113 = .ok (.iload 8, 2) := by decide +kernel
theorem d_mo_askOf_115 : decode prog_7_method_65_code 115 = .ok (.iload 4, 2) := by decide +kernel
theorem d_mo_askOf_117 : decode prog_7_method_65_code 117 = .ok (.if_icmp .ge 8, 3) := by decide +kernel
theorem d_mo_askOf_120 : decode prog_7_method_65_code 120 = .ok (.iload 8, 2) := by decide +kernel
theorem d_mo_askOf_122 : decode prog_7_method_65_code 122 = .ok (.goto 5, 3) := by decide +kernel
theorem d_mo_askOf_125 : decode prog_7_method_65_code 125 = .ok (.iload 4, 2) := by decide +kernel
theorem d_mo_askOf_127 : decode prog_7_method_65_code 127 = .ok (.istore 4, 2) := by decide +kernel
theorem d_mo_askOf_129 : decode prog_7_method_65_code 129 = .ok (.iinc 5 1, 3) := by decide +kernel
theorem d_mo_askOf_132 : decode prog_7_method_65_code 132 = .ok (.goto (-115), 3) := by decide +kernel
theorem d_mo_askOf_135 : decode prog_7_method_65_code 135 = .ok (.iload_n 3, 1) := by decide +kernel
theorem d_mo_askOf_136 : decode prog_7_method_65_code 136 = .ok (.ireturn, 1) := by decide +kernel
theorem d_mo_draw_0 : decode prog_7_method_66_code 0 = .ok (.aload_n 0, 1) := by decide +kernel
theorem d_mo_draw_1 : decode prog_7_method_66_code 1 = .ok (.ldc2_w 239, 3) := by decide +kernel
theorem d_mo_draw_4 : decode prog_7_method_66_code 4 = .ok (.aload_n 0, 1) := by decide +kernel
theorem d_mo_draw_5 : decode prog_7_method_66_code 5 = .ok (.getfield 241, 3) := by decide +kernel
theorem d_mo_draw_8 : decode prog_7_method_66_code 8 = .ok (.lmul, 1) := by decide +kernel
theorem d_mo_draw_9 : decode prog_7_method_66_code 9 = .ok (.ldc2_w 245, 3) := by decide +kernel
theorem d_mo_draw_12 : decode prog_7_method_66_code 12 = .ok (.ladd, 1) := by decide +kernel
theorem d_mo_draw_13 : decode prog_7_method_66_code 13 = .ok (.ldc2_w 247, 3) := by decide +kernel
theorem d_mo_draw_16 : decode prog_7_method_66_code 16 = .ok (.land, 1) := by decide +kernel
theorem d_mo_draw_17 : decode prog_7_method_66_code 17 = .ok (.putfield 241, 3) := by decide +kernel
theorem d_mo_draw_20 : decode prog_7_method_66_code 20 = .ok (.aload_n 0, 1) := by decide +kernel
theorem d_mo_draw_21 : decode prog_7_method_66_code 21 = .ok (.getfield 241, 3) := by decide +kernel
theorem d_mo_draw_24 : decode prog_7_method_66_code 24 = .ok (.ldc2_w 249, 3) := by decide +kernel
theorem d_mo_draw_27 : decode prog_7_method_66_code 27 = .ok (.ldiv, 1) := by decide +kernel
theorem d_mo_draw_28 : decode prog_7_method_66_code 28 = .ok (.iload_n 1, 1) := by decide +kernel
theorem d_mo_draw_29 : decode prog_7_method_66_code 29 = .ok (.i2l, 1) := by decide +kernel
theorem d_mo_draw_30 : decode prog_7_method_66_code 30 = .ok (.lrem, 1) := by decide +kernel
theorem d_mo_draw_31 : decode prog_7_method_66_code 31 = .ok (.l2i, 1) := by decide +kernel
theorem d_mo_draw_32 : decode prog_7_method_66_code 32 = .ok (.ireturn, 1) := by decide +kernel
theorem d_mo_drawnNow_0 : decode prog_7_method_67_code 0 = .ok (.aload_n 0, 1) := by decide +kernel
theorem d_mo_drawnNow_1 : decode prog_7_method_67_code 1 = .ok (.iload_n 2, 1) := by decide +kernel
theorem d_mo_drawnNow_2 : decode prog_7_method_67_code 2 = .ok (.i2l, 1) := by decide +kernel
theorem d_mo_drawnNow_3 : decode prog_7_method_67_code 3 = .ok (.putfield 241, 3) := by decide +kernel
theorem d_mo_drawnNow_6 : decode prog_7_method_67_code 6 = .ok (.iconst 0, 1) := by decide +kernel
theorem d_mo_drawnNow_7 : decode prog_7_method_67_code 7 = .ok (.istore 4, 2) := by decide +kernel
theorem d_mo_drawnNow_9 : decode prog_7_method_67_code 9 = .ok (.iconst 0, 1) := by decide +kernel
theorem d_mo_drawnNow_10 : decode prog_7_method_67_code 10 = .ok (.istore 5, 2) := by decide +kernel
theorem d_mo_drawnNow_12 : decode prog_7_method_67_code 12 = .ok (.iconst 0, 1) := by decide +kernel
theorem d_mo_drawnNow_13 : decode prog_7_method_67_code 13 = .ok (.istore 6, 2) := by decide +kernel
theorem d_mo_drawnNow_15 : decode prog_7_method_67_code 15 = .ok (.iload 6, 2) := by decide +kernel
theorem d_mo_drawnNow_17 : decode prog_7_method_67_code 17 = .ok (.iload_n 1, 1) := by decide +kernel
theorem d_mo_drawnNow_18 : decode prog_7_method_67_code 18 = .ok (.if_icmp .ge 66, 3) := by decide +kernel
theorem d_mo_drawnNow_21 : decode prog_7_method_67_code 21 = .ok (.aload_n 0, 1) := by decide +kernel
theorem d_mo_drawnNow_22 : decode prog_7_method_67_code 22 = .ok (.aload_n 0, 1) := by decide +kernel
theorem d_mo_drawnNow_23 : decode prog_7_method_67_code 23 = .ok (.getfield 138, 3) := by decide +kernel
theorem d_mo_drawnNow_26 : decode prog_7_method_67_code 26 = .ok (.invokevirtual 251, 3) := by decide +kernel
theorem d_mo_drawnNow_29 : decode prog_7_method_67_code 29 = .ok (.istore 7, 2) := by decide +kernel
theorem d_mo_drawnNow_31 : decode prog_7_method_67_code 31 = .ok (.aload_n 0, 1) := by decide +kernel
theorem d_mo_drawnNow_32 : decode prog_7_method_67_code 32 = .ok (.iload 7, 2) := by decide +kernel
theorem d_mo_drawnNow_34 : decode prog_7_method_67_code 34 = .ok (.aload_n 0, 1) := by decide +kernel
theorem d_mo_drawnNow_35 : decode prog_7_method_67_code 35 = .ok (.sipush 1440, 3) := by decide +kernel
theorem d_mo_drawnNow_38 : decode prog_7_method_67_code 38 = .ok (.invokevirtual 251, 3) := by decide +kernel
theorem d_mo_drawnNow_41 : decode prog_7_method_67_code 41 = .ok (.invokevirtual 185, 3) := by decide +kernel
theorem d_mo_drawnNow_44 : decode prog_7_method_67_code 44 = .ok (.istore 8, 2) := by decide +kernel
theorem d_mo_drawnNow_46 : decode prog_7_method_67_code 46 = .ok (.iload 4, 2) := by decide +kernel
theorem d_mo_drawnNow_48 : decode prog_7_method_67_code 48 = .ok (.iload 8, 2) := by decide +kernel
theorem d_mo_drawnNow_50 : decode prog_7_method_67_code 50 = .ok (.bipush 10, 2) := by decide +kernel
theorem d_mo_drawnNow_52 : decode prog_7_method_67_code 52 = .ok (.aload_n 0, 1) := by decide +kernel
theorem d_mo_drawnNow_53 : decode prog_7_method_67_code 53 = .ok (.getfield 13, 3) := by decide +kernel
theorem d_mo_drawnNow_56 : decode prog_7_method_67_code 56 = .ok (.iload 7, 2) := by decide +kernel
theorem d_mo_drawnNow_58 : decode prog_7_method_67_code 58 = .ok (.iaload, 1) := by decide +kernel
theorem d_mo_drawnNow_59 : decode prog_7_method_67_code 59 = .ok (.imul, 1) := by decide +kernel
theorem d_mo_drawnNow_60 : decode prog_7_method_67_code 60 = .ok (.if_icmp .lt 7, 3) := by decide +kernel
theorem d_mo_drawnNow_63 : decode prog_7_method_67_code 63 = .ok (.iconst 1, 1) := by decide +kernel
theorem d_mo_drawnNow_64 : decode prog_7_method_67_code 64 = .ok (.goto 4, 3) := by decide +kernel
theorem d_mo_drawnNow_67 : decode prog_7_method_67_code 67 = .ok (.iconst 0, 1) := by decide +kernel
theorem d_mo_drawnNow_68 : decode prog_7_method_67_code 68 = .ok (.iadd, 1) := by decide +kernel
theorem d_mo_drawnNow_69 : decode prog_7_method_67_code 69 = .ok (.istore 4, 2) := by decide +kernel
theorem d_mo_drawnNow_71 : decode prog_7_method_67_code 71 = .ok (.iload 5, 2) := by decide +kernel
theorem d_mo_drawnNow_73 : decode prog_7_method_67_code 73 = .ok (.iload 8, 2) := by decide +kernel
theorem d_mo_drawnNow_75 : decode prog_7_method_67_code 75 = .ok (.iadd, 1) := by decide +kernel
theorem d_mo_drawnNow_76 : decode prog_7_method_67_code 76 = .ok (.istore 5, 2) := by decide +kernel
theorem d_mo_drawnNow_78 : decode prog_7_method_67_code 78 = .ok (.iinc 6 1, 3) := by decide +kernel
theorem d_mo_drawnNow_81 : decode prog_7_method_67_code 81 = .ok (.goto (-66), 3) := by decide +kernel
theorem d_mo_drawnNow_84 : decode prog_7_method_67_code 84 = .ok (.iload_n 3, 1) := by decide +kernel
theorem d_mo_drawnNow_85 : decode prog_7_method_67_code 85 = .ok (.ifCond .ne 8, 3) := by decide +kernel
theorem d_mo_drawnNow_88 : decode prog_7_method_67_code 88 = .ok (.iload 4, 2) := by decide +kernel
theorem d_mo_drawnNow_90 : decode prog_7_method_67_code 90 = .ok (.goto 18, 3) := by decide +kernel
theorem d_mo_drawnNow_93 : decode prog_7_method_67_code 93 = .ok (.iload_n 3, 1) := by decide +kernel
theorem d_mo_drawnNow_94 : decode prog_7_method_67_code 94 = .ok (.iconst 1, 1) := by decide +kernel
theorem d_mo_drawnNow_95 : decode prog_7_method_67_code 95 = .ok (.if_icmp .ne 8, 3) := by decide +kernel
theorem d_mo_drawnNow_98 : decode prog_7_method_67_code 98 = .ok (.iload 5, 2) := by decide +kernel
theorem d_mo_drawnNow_100 : decode prog_7_method_67_code 100 = .ok (.goto 8, 3) := by decide +kernel
theorem d_mo_drawnNow_103 : decode prog_7_method_67_code 103 = .ok (.aload_n 0, 1) := by decide +kernel
theorem d_mo_drawnNow_104 : decode prog_7_method_67_code 104 = .ok (.getfield 241, 3) := by decide +kernel
theorem d_mo_drawnNow_107 : decode prog_7_method_67_code 107 = .ok (.l2i, 1) := by decide +kernel
theorem d_mo_drawnNow_108 : decode prog_7_method_67_code 108 = .ok (.ireturn, 1) := by decide +kernel
theorem d_mo_drawn_0 : decode prog_7_method_68_code 0 = .ok (.iload_n 1, 1) := by decide +kernel
theorem d_mo_drawn_1 : decode prog_7_method_68_code 1 = .ok (.iconst 1, 1) := by decide +kernel
theorem d_mo_drawn_2 : decode prog_7_method_68_code 2 = .ok (.bipush 50, 2) := by decide +kernel
theorem d_mo_drawn_4 : decode prog_7_method_68_code 4 = .ok (.invokestatic 93, 3) := by decide +kernel
theorem d_mo_drawn_7 : decode prog_7_method_68_code 7 = .ok (.ifCond .eq 16, 3) := by decide +kernel
theorem d_mo_drawn_10 : decode prog_7_method_68_code 10 = .ok (.iload_n 2, 1) := by decide +kernel
theorem d_mo_drawn_11 : decode prog_7_method_68_code 11 = .ok (.ifCond .lt 12, 3) := by decide +kernel
theorem d_mo_drawn_14 : decode prog_7_method_68_code 14 = .ok (.iload_n 3, 1) := by decide +kernel
theorem d_mo_drawn_15 : decode prog_7_method_68_code 15 = .ok (.iconst 0, 1) := by decide +kernel
theorem d_mo_drawn_16 : decode prog_7_method_68_code 16 = .ok (.iconst 2, 1) := by decide +kernel
theorem d_mo_drawn_17 : decode prog_7_method_68_code 17 = .ok (.invokestatic 93, 3) := by decide +kernel
theorem d_mo_drawn_20 : decode prog_7_method_68_code 20 = .ok (.ifCond .ne 7, 3) := by decide +kernel
theorem d_mo_drawn_23 : decode prog_7_method_68_code 23 = .ok (.sipush (-10102), 3) := by decide +kernel
theorem d_mo_drawn_26 : decode prog_7_method_68_code 26 = .ok (.ireturn, 1) := by decide +kernel
theorem d_mo_drawn_27 : decode prog_7_method_68_code 27 = .ok (.aload_n 0, 1) := by decide +kernel
theorem d_mo_drawn_28 : decode prog_7_method_68_code 28 = .ok (.getfield 138, 3) := by decide +kernel
theorem d_mo_drawn_31 : decode prog_7_method_68_code 31 = .ok (.ifCond .ne 9, 3) := by decide +kernel
theorem d_mo_drawn_34 : decode prog_7_method_68_code 34 = .ok (.sipush (-10103), 3) := by decide +kernel
theorem d_mo_drawn_37 : decode prog_7_method_68_code 37 = .ok (.goto 10, 3) := by decide +kernel
theorem d_mo_drawn_40 : decode prog_7_method_68_code 40 = .ok (.aload_n 0, 1) := by decide +kernel
theorem d_mo_drawn_41 : decode prog_7_method_68_code 41 = .ok (.iload_n 1, 1) := by decide +kernel
theorem d_mo_drawn_42 : decode prog_7_method_68_code 42 = .ok (.iload_n 2, 1) := by decide +kernel
theorem d_mo_drawn_43 : decode prog_7_method_68_code 43 = .ok (.iload_n 3, 1) := by decide +kernel
theorem d_mo_drawn_44 : decode prog_7_method_68_code 44 = .ok (.invokevirtual 254, 3) := by decide +kernel
theorem d_mo_drawn_47 : decode prog_7_method_68_code 47 = .ok (.ireturn, 1) := by decide +kernel
theorem d_mo_image_0 : decode prog_7_method_69_code 0 = .ok (.aload_n 0, 1) := by decide +kernel
theorem d_mo_image_1 : decode prog_7_method_69_code 1 = .ok (.getfield 138, 3) := by decide +kernel
theorem d_mo_image_4 : decode prog_7_method_69_code 4 = .ok (.ifCond .ne 7, 3) := by decide +kernel
theorem d_mo_image_7 : decode prog_7_method_69_code 7 = .ok (.sipush (-10103), 3) := by decide +kernel
theorem d_mo_image_10 : decode prog_7_method_69_code 10 = .ok (.ireturn, 1) := by decide +kernel
theorem d_mo_image_11 : decode prog_7_method_69_code 11 = .ok (.aload_n 0, 1) := by decide +kernel
theorem d_mo_image_12 : decode prog_7_method_69_code 12 = .ok (.iconst 1, 1) := by decide +kernel
theorem d_mo_image_13 : decode prog_7_method_69_code 13 = .ok (.putfield 257, 3) := by decide +kernel
theorem d_mo_image_16 : decode prog_7_method_69_code 16 = .ok (.aload_n 0, 1) := by decide +kernel
theorem d_mo_image_17 : decode prog_7_method_69_code 17 = .ok (.aload_n 0, 1) := by decide +kernel
theorem d_mo_image_18 : decode prog_7_method_69_code 18 = .ok (.getfield 141, 3) := by decide +kernel
theorem d_mo_image_21 : decode prog_7_method_69_code 21 = .ok (.putfield 260, 3) := by decide +kernel
theorem d_mo_image_24 : decode prog_7_method_69_code 24 = .ok (.aload_n 0, 1) := by decide +kernel
theorem d_mo_image_25 : decode prog_7_method_69_code 25 = .ok (.aload_n 0, 1) := by decide +kernel
theorem d_mo_image_26 : decode prog_7_method_69_code 26 = .ok (.getfield 144, 3) := by decide +kernel
theorem d_mo_image_29 : decode prog_7_method_69_code 29 = .ok (.putfield 263, 3) := by decide +kernel
theorem d_mo_image_32 : decode prog_7_method_69_code 32 = .ok (.iconst 0, 1) := by decide +kernel
theorem d_mo_image_33 : decode prog_7_method_69_code 33 = .ok (.istore_n 1, 1) := by decide +kernel
theorem d_mo_image_34 : decode prog_7_method_69_code 34 = .ok (.iload_n 1, 1) := by decide +kernel
theorem d_mo_image_35 : decode prog_7_method_69_code 35 = .ok (.iconst 4, 1) := by decide +kernel
theorem d_mo_image_36 : decode prog_7_method_69_code 36 = .ok (.if_icmp .ge 69, 3) := by decide +kernel
theorem d_mo_image_39 : decode prog_7_method_69_code 39 = .ok (.aload_n 0, 1) := by decide +kernel
theorem d_mo_image_40 : decode prog_7_method_69_code 40 = .ok (.getfield 62, 3) := by decide +kernel
theorem d_mo_image_43 : decode prog_7_method_69_code 43 = .ok (.iload_n 1, 1) := by decide +kernel
theorem d_mo_image_44 : decode prog_7_method_69_code 44 = .ok (.aload_n 0, 1) := by decide +kernel
theorem d_mo_image_45 : decode prog_7_method_69_code 45 = .ok (.getfield 7, 3) := by decide +kernel
theorem d_mo_image_48 : decode prog_7_method_69_code 48 = .ok (.iload_n 1, 1) := by decide +kernel
theorem d_mo_image_49 : decode prog_7_method_69_code 49 = .ok (.iaload, 1) := by decide +kernel
theorem d_mo_image_50 : decode prog_7_method_69_code 50 = .ok (.iastore, 1) := by decide +kernel
theorem d_mo_image_51 : decode prog_7_method_69_code 51 = .ok (.aload_n 0, 1) := by decide +kernel
theorem d_mo_image_52 : decode prog_7_method_69_code 52 = .ok (.getfield 65, 3) := by decide +kernel
theorem d_mo_image_55 : decode prog_7_method_69_code 55 = .ok (.iload_n 1, 1) := by decide +kernel
theorem d_mo_image_56 : decode prog_7_method_69_code 56 = .ok (.aload_n 0, 1) := by decide +kernel
theorem d_mo_image_57 : decode prog_7_method_69_code 57 = .ok (.getfield 13, 3) := by decide +kernel
theorem d_mo_image_60 : decode prog_7_method_69_code 60 = .ok (.iload_n 1, 1) := by decide +kernel
theorem d_mo_image_61 : decode prog_7_method_69_code 61 = .ok (.iaload, 1) := by decide +kernel
theorem d_mo_image_62 : decode prog_7_method_69_code 62 = .ok (.iastore, 1) := by decide +kernel
theorem d_mo_image_63 : decode prog_7_method_69_code 63 = .ok (.aload_n 0, 1) := by decide +kernel
theorem d_mo_image_64 : decode prog_7_method_69_code 64 = .ok (.getfield 68, 3) := by decide +kernel
theorem d_mo_image_67 : decode prog_7_method_69_code 67 = .ok (.iload_n 1, 1) := by decide +kernel
theorem d_mo_image_68 : decode prog_7_method_69_code 68 = .ok (.aload_n 0, 1) := by decide +kernel
theorem d_mo_image_69 : decode prog_7_method_69_code 69 = .ok (.getfield 16, 3) := by decide +kernel
theorem d_mo_image_72 : decode prog_7_method_69_code 72 = .ok (.iload_n 1, 1) := by decide +kernel
theorem d_mo_image_73 : decode prog_7_method_69_code 73 = .ok (.iaload, 1) := by decide +kernel
theorem d_mo_image_74 : decode prog_7_method_69_code 74 = .ok (.iastore, 1) := by decide +kernel
theorem d_mo_image_75 : decode prog_7_method_69_code 75 = .ok (.aload_n 0, 1) := by decide +kernel
theorem d_mo_image_76 : decode prog_7_method_69_code 76 = .ok (.getfield 71, 3) := by decide +kernel
theorem d_mo_image_79 : decode prog_7_method_69_code 79 = .ok (.iload_n 1, 1) := by decide +kernel
theorem d_mo_image_80 : decode prog_7_method_69_code 80 = .ok (.aload_n 0, 1) := by decide +kernel
theorem d_mo_image_81 : decode prog_7_method_69_code 81 = .ok (.getfield 19, 3) := by decide +kernel
theorem d_mo_image_84 : decode prog_7_method_69_code 84 = .ok (.iload_n 1, 1) := by decide +kernel
theorem d_mo_image_85 : decode prog_7_method_69_code 85 = .ok (.iaload, 1) := by decide +kernel
theorem d_mo_image_86 : decode prog_7_method_69_code 86 = .ok (.iastore, 1) := by decide +kernel
theorem d_mo_image_87 : decode prog_7_method_69_code 87 = .ok (.aload_n 0, 1) := by decide +kernel
theorem d_mo_image_88 : decode prog_7_method_69_code 88 = .ok (.getfield 74, 3) := by decide +kernel
theorem d_mo_image_91 : decode prog_7_method_69_code 91 = .ok (.iload_n 1, 1) := by decide +kernel
theorem d_mo_image_92 : decode prog_7_method_69_code 92 = .ok (.aload_n 0, 1) := by decide +kernel
theorem d_mo_image_93 : decode prog_7_method_69_code 93 = .ok (.getfield 22, 3) := by decide +kernel
theorem d_mo_image_96 : decode prog_7_method_69_code 96 = .ok (.iload_n 1, 1) := by decide +kernel
theorem d_mo_image_97 : decode prog_7_method_69_code 97 = .ok (.iaload, 1) := by decide +kernel
theorem d_mo_image_98 : decode prog_7_method_69_code 98 = .ok (.iastore, 1) := by decide +kernel
theorem d_mo_image_99 : decode prog_7_method_69_code 99 = .ok (.iinc 1 1, 3) := by decide +kernel
theorem d_mo_image_102 : decode prog_7_method_69_code 102 = .ok (.goto (-68), 3) := by decide +kernel
theorem d_mo_image_105 : decode prog_7_method_69_code 105 = .ok (.iconst 0, 1) := by decide +kernel
theorem d_mo_image_106 : decode prog_7_method_69_code 106 = .ok (.istore_n 1, 1) := by decide +kernel
theorem d_mo_image_107 : decode prog_7_method_69_code 107 = .ok (.iload_n 1, 1) := by decide +kernel
theorem d_mo_image_108 : decode prog_7_method_69_code 108 = .ok (.bipush 36, 2) := by decide +kernel
theorem d_mo_image_110 : decode prog_7_method_69_code 110 = .ok (.if_icmp .ge 21, 3) := by decide +kernel
theorem d_mo_image_113 : decode prog_7_method_69_code 113 = .ok (.aload_n 0, 1) := by decide +kernel
theorem d_mo_image_114 : decode prog_7_method_69_code 114 = .ok (.getfield 77, 3) := by decide +kernel
theorem d_mo_image_117 : decode prog_7_method_69_code 117 = .ok (.iload_n 1, 1) := by decide +kernel
theorem d_mo_image_118 : decode prog_7_method_69_code 118 = .ok (.aload_n 0, 1) := by decide +kernel
theorem d_mo_image_119 : decode prog_7_method_69_code 119 = .ok (.getfield 25, 3) := by decide +kernel
theorem d_mo_image_122 : decode prog_7_method_69_code 122 = .ok (.iload_n 1, 1) := by decide +kernel
theorem d_mo_image_123 : decode prog_7_method_69_code 123 = .ok (.iaload, 1) := by decide +kernel
theorem d_mo_image_124 : decode prog_7_method_69_code 124 = .ok (.iastore, 1) := by decide +kernel
theorem d_mo_image_125 : decode prog_7_method_69_code 125 = .ok (.iinc 1 1, 3) := by decide +kernel
theorem d_mo_image_128 : decode prog_7_method_69_code 128 = .ok (.goto (-21), 3) := by decide +kernel
theorem d_mo_image_131 : decode prog_7_method_69_code 131 = .ok (.iconst 0, 1) := by decide +kernel
theorem d_mo_image_132 : decode prog_7_method_69_code 132 = .ok (.istore_n 1, 1) := by decide +kernel
theorem d_mo_image_133 : decode prog_7_method_69_code 133 = .ok (.iload_n 1, 1) := by decide +kernel
theorem d_mo_image_134 : decode prog_7_method_69_code 134 = .ok (.bipush 6, 2) := by decide +kernel
theorem d_mo_image_136 : decode prog_7_method_69_code 136 = .ok (.if_icmp .ge 45, 3) := by decide +kernel
theorem d_mo_image_139 : decode prog_7_method_69_code 139 = .ok (.aload_n 0, 1) := by decide +kernel
theorem d_mo_image_140 : decode prog_7_method_69_code 140 = .ok (.getfield 80, 3) := by decide +kernel
theorem d_mo_image_143 : decode prog_7_method_69_code 143 = .ok (.iload_n 1, 1) := by decide +kernel
theorem d_mo_image_144 : decode prog_7_method_69_code 144 = .ok (.aload_n 0, 1) := by decide +kernel
theorem d_mo_image_145 : decode prog_7_method_69_code 145 = .ok (.getfield 31, 3) := by decide +kernel
theorem d_mo_image_148 : decode prog_7_method_69_code 148 = .ok (.iload_n 1, 1) := by decide +kernel
theorem d_mo_image_149 : decode prog_7_method_69_code 149 = .ok (.iaload, 1) := by decide +kernel
theorem d_mo_image_150 : decode prog_7_method_69_code 150 = .ok (.iastore, 1) := by decide +kernel
theorem d_mo_image_151 : decode prog_7_method_69_code 151 = .ok (.aload_n 0, 1) := by decide +kernel
theorem d_mo_image_152 : decode prog_7_method_69_code 152 = .ok (.getfield 83, 3) := by decide +kernel
theorem d_mo_image_155 : decode prog_7_method_69_code 155 = .ok (.iload_n 1, 1) := by decide +kernel
theorem d_mo_image_156 : decode prog_7_method_69_code 156 = .ok (.aload_n 0, 1) := by decide +kernel
theorem d_mo_image_157 : decode prog_7_method_69_code 157 = .ok (.getfield 34, 3) := by decide +kernel
theorem d_mo_image_160 : decode prog_7_method_69_code 160 = .ok (.iload_n 1, 1) := by decide +kernel
theorem d_mo_image_161 : decode prog_7_method_69_code 161 = .ok (.iaload, 1) := by decide +kernel
theorem d_mo_image_162 : decode prog_7_method_69_code 162 = .ok (.iastore, 1) := by decide +kernel
theorem d_mo_image_163 : decode prog_7_method_69_code 163 = .ok (.aload_n 0, 1) := by decide +kernel
theorem d_mo_image_164 : decode prog_7_method_69_code 164 = .ok (.getfield 86, 3) := by decide +kernel
theorem d_mo_image_167 : decode prog_7_method_69_code 167 = .ok (.iload_n 1, 1) := by decide +kernel
theorem d_mo_image_168 : decode prog_7_method_69_code 168 = .ok (.aload_n 0, 1) := by decide +kernel
theorem d_mo_image_169 : decode prog_7_method_69_code 169 = .ok (.getfield 37, 3) := by decide +kernel
theorem d_mo_image_172 : decode prog_7_method_69_code 172 = .ok (.iload_n 1, 1) := by decide +kernel
theorem d_mo_image_173 : decode prog_7_method_69_code 173 = .ok (.iaload, 1) := by decide +kernel
theorem d_mo_image_174 : decode prog_7_method_69_code 174 = .ok (.iastore, 1) := by decide +kernel
theorem d_mo_image_175 : decode prog_7_method_69_code 175 = .ok (.iinc 1 1, 3) := by decide +kernel
theorem d_mo_image_178 : decode prog_7_method_69_code 178 = .ok (.goto (-45), 3) := by decide +kernel
theorem d_mo_image_181 : decode prog_7_method_69_code 181 = .ok (.aload_n 0, 1) := by decide +kernel
theorem d_mo_image_182 : decode prog_7_method_69_code 182 = .ok (.getfield 138, 3) := by decide +kernel
theorem d_mo_image_185 : decode prog_7_method_69_code 185 = .ok (.ireturn, 1) := by decide +kernel
theorem d_mo_restore_0 : decode prog_7_method_70_code 0 = .ok (.aload_n 0, 1) := by decide +kernel
theorem d_mo_restore_1 : decode prog_7_method_70_code 1 = .ok (.getfield 257, 3) := by decide +kernel
theorem d_mo_restore_4 : decode prog_7_method_70_code 4 = .ok (.ifCond .eq 14, 3) := by decide +kernel
theorem d_mo_restore_7 : decode prog_7_method_70_code 7 = .ok (.aload_n 0, 1) := by decide +kernel
theorem d_mo_restore_8 : decode prog_7_method_70_code 8 = .ok (.getfield 260, 3) := by decide +kernel
theorem d_mo_restore_11 : decode prog_7_method_70_code 11 = .ok (.aload_n 0, 1) := by decide +kernel
theorem d_mo_restore_12 : decode prog_7_method_70_code 12 = .ok (.getfield 141, 3) := by decide +kernel
theorem d_mo_restore_15 : decode prog_7_method_70_code 15 = .ok (.if_icmp .eq 7, 3) := by decide +kernel
theorem d_mo_restore_18 : decode prog_7_method_70_code 18 = .ok (.sipush (-10103), 3) := by decide +kernel
theorem d_mo_restore_21 : decode prog_7_method_70_code 21 = .ok (.ireturn, 1) := by decide +kernel
theorem d_mo_restore_22 : decode prog_7_method_70_code 22 = .ok (.aload_n 0, 1) := by decide +kernel
theorem d_mo_restore_23 : decode prog_7_method_70_code 23 = .ok (.aload_n 0, 1) := by decide +kernel
theorem d_mo_restore_24 : decode prog_7_method_70_code 24 = .ok (.getfield 263, 3) := by decide +kernel
theorem d_mo_restore_27 : decode prog_7_method_70_code 27 = .ok (.putfield 144, 3) := by decide +kernel
theorem d_mo_restore_30 : decode prog_7_method_70_code 30 = .ok (.iconst 0, 1) := by decide +kernel
theorem d_mo_restore_31 : decode prog_7_method_70_code 31 = .ok (.istore_n 1, 1) := by decide +kernel
theorem d_mo_restore_32 : decode prog_7_method_70_code 32 = .ok (.iload_n 1, 1) := by decide +kernel
theorem d_mo_restore_33 : decode prog_7_method_70_code 33 = .ok (.iconst 4, 1) := by decide +kernel
theorem d_mo_restore_34 : decode prog_7_method_70_code 34 = .ok (.if_icmp .ge 69, 3) := by decide +kernel
theorem d_mo_restore_37 : decode prog_7_method_70_code 37 = .ok (.aload_n 0, 1) := by decide +kernel
theorem d_mo_restore_38 : decode prog_7_method_70_code 38 = .ok (.getfield 7, 3) := by decide +kernel
theorem d_mo_restore_41 : decode prog_7_method_70_code 41 = .ok (.iload_n 1, 1) := by decide +kernel
theorem d_mo_restore_42 : decode prog_7_method_70_code 42 = .ok (.aload_n 0, 1) := by decide +kernel
theorem d_mo_restore_43 : decode prog_7_method_70_code 43 = .ok (.getfield 62, 3) := by decide +kernel
theorem d_mo_restore_46 : decode prog_7_method_70_code 46 = .ok (.iload_n 1, 1) := by decide +kernel
theorem d_mo_restore_47 : decode prog_7_method_70_code 47 = .ok (.iaload, 1) := by decide +kernel
theorem d_mo_restore_48 : decode prog_7_method_70_code 48 = .ok (.iastore, 1) := by decide +kernel
theorem d_mo_restore_49 : decode prog_7_method_70_code 49 = .ok (.aload_n 0, 1) := by decide +kernel
theorem d_mo_restore_50 : decode prog_7_method_70_code 50 = .ok (.getfield 13, 3) := by decide +kernel
theorem d_mo_restore_53 : decode prog_7_method_70_code 53 = .ok (.iload_n 1, 1) := by decide +kernel
theorem d_mo_restore_54 : decode prog_7_method_70_code 54 = .ok (.aload_n 0, 1) := by decide +kernel
theorem d_mo_restore_55 : decode prog_7_method_70_code 55 = .ok (.getfield 65, 3) := by decide +kernel
theorem d_mo_restore_58 : decode prog_7_method_70_code 58 = .ok (.iload_n 1, 1) := by decide +kernel
theorem d_mo_restore_59 : decode prog_7_method_70_code 59 = .ok (.iaload, 1) := by decide +kernel
theorem d_mo_restore_60 : decode prog_7_method_70_code 60 = .ok (.iastore, 1) := by decide +kernel
theorem d_mo_restore_61 : decode prog_7_method_70_code 61 = .ok (.aload_n 0, 1) := by decide +kernel
theorem d_mo_restore_62 : decode prog_7_method_70_code 62 = .ok (.getfield 16, 3) := by decide +kernel
theorem d_mo_restore_65 : decode prog_7_method_70_code 65 = .ok (.iload_n 1, 1) := by decide +kernel
theorem d_mo_restore_66 : decode prog_7_method_70_code 66 = .ok (.aload_n 0, 1) := by decide +kernel
theorem d_mo_restore_67 : decode prog_7_method_70_code 67 = .ok (.getfield 68, 3) := by decide +kernel
theorem d_mo_restore_70 : decode prog_7_method_70_code 70 = .ok (.iload_n 1, 1) := by decide +kernel
theorem d_mo_restore_71 : decode prog_7_method_70_code 71 = .ok (.iaload, 1) := by decide +kernel
theorem d_mo_restore_72 : decode prog_7_method_70_code 72 = .ok (.iastore, 1) := by decide +kernel
theorem d_mo_restore_73 : decode prog_7_method_70_code 73 = .ok (.aload_n 0, 1) := by decide +kernel
theorem d_mo_restore_74 : decode prog_7_method_70_code 74 = .ok (.getfield 19, 3) := by decide +kernel
theorem d_mo_restore_77 : decode prog_7_method_70_code 77 = .ok (.iload_n 1, 1) := by decide +kernel
theorem d_mo_restore_78 : decode prog_7_method_70_code 78 = .ok (.aload_n 0, 1) := by decide +kernel
theorem d_mo_restore_79 : decode prog_7_method_70_code 79 = .ok (.getfield 71, 3) := by decide +kernel
theorem d_mo_restore_82 : decode prog_7_method_70_code 82 = .ok (.iload_n 1, 1) := by decide +kernel
theorem d_mo_restore_83 : decode prog_7_method_70_code 83 = .ok (.iaload, 1) := by decide +kernel
theorem d_mo_restore_84 : decode prog_7_method_70_code 84 = .ok (.iastore, 1) := by decide +kernel
theorem d_mo_restore_85 : decode prog_7_method_70_code 85 = .ok (.aload_n 0, 1) := by decide +kernel
theorem d_mo_restore_86 : decode prog_7_method_70_code 86 = .ok (.getfield 22, 3) := by decide +kernel
theorem d_mo_restore_89 : decode prog_7_method_70_code 89 = .ok (.iload_n 1, 1) := by decide +kernel
theorem d_mo_restore_90 : decode prog_7_method_70_code 90 = .ok (.aload_n 0, 1) := by decide +kernel
theorem d_mo_restore_91 : decode prog_7_method_70_code 91 = .ok (.getfield 74, 3) := by decide +kernel
theorem d_mo_restore_94 : decode prog_7_method_70_code 94 = .ok (.iload_n 1, 1) := by decide +kernel
theorem d_mo_restore_95 : decode prog_7_method_70_code 95 = .ok (.iaload, 1) := by decide +kernel
theorem d_mo_restore_96 : decode prog_7_method_70_code 96 = .ok (.iastore, 1) := by decide +kernel
theorem d_mo_restore_97 : decode prog_7_method_70_code 97 = .ok (.iinc 1 1, 3) := by decide +kernel
theorem d_mo_restore_100 : decode prog_7_method_70_code 100 = .ok (.goto (-68), 3) := by decide +kernel
theorem d_mo_restore_103 : decode prog_7_method_70_code 103 = .ok (.iconst 0, 1) := by decide +kernel
theorem d_mo_restore_104 : decode prog_7_method_70_code 104 = .ok (.istore_n 1, 1) := by decide +kernel
theorem d_mo_restore_105 : decode prog_7_method_70_code 105 = .ok (.iload_n 1, 1) := by decide +kernel
theorem d_mo_restore_106 : decode prog_7_method_70_code 106 = .ok (.bipush 36, 2) := by decide +kernel
theorem d_mo_restore_108 : decode prog_7_method_70_code 108 = .ok (.if_icmp .ge 21, 3) := by decide +kernel
theorem d_mo_restore_111 : decode prog_7_method_70_code 111 = .ok (.aload_n 0, 1) := by decide +kernel
theorem d_mo_restore_112 : decode prog_7_method_70_code 112 = .ok (.getfield 25, 3) := by decide +kernel
theorem d_mo_restore_115 : decode prog_7_method_70_code 115 = .ok (.iload_n 1, 1) := by decide +kernel
theorem d_mo_restore_116 : decode prog_7_method_70_code 116 = .ok (.aload_n 0, 1) := by decide +kernel
theorem d_mo_restore_117 : decode prog_7_method_70_code 117 = .ok (.getfield 77, 3) := by decide +kernel
theorem d_mo_restore_120 : decode prog_7_method_70_code 120 = .ok (.iload_n 1, 1) := by decide +kernel
theorem d_mo_restore_121 : decode prog_7_method_70_code 121 = .ok (.iaload, 1) := by decide +kernel
theorem d_mo_restore_122 : decode prog_7_method_70_code 122 = .ok (.iastore, 1) := by decide +kernel
theorem d_mo_restore_123 : decode prog_7_method_70_code 123 = .ok (.iinc 1 1, 3) := by decide +kernel
theorem d_mo_restore_126 : decode prog_7_method_70_code 126 = .ok (.goto (-21), 3) := by decide +kernel
theorem d_mo_restore_129 : decode prog_7_method_70_code 129 = .ok (.iconst 0, 1) := by decide +kernel
theorem d_mo_restore_130 : decode prog_7_method_70_code 130 = .ok (.istore_n 1, 1) := by decide +kernel
theorem d_mo_restore_131 : decode prog_7_method_70_code 131 = .ok (.iload_n 1, 1) := by decide +kernel
theorem d_mo_restore_132 : decode prog_7_method_70_code 132 = .ok (.bipush 6, 2) := by decide +kernel
theorem d_mo_restore_134 : decode prog_7_method_70_code 134 = .ok (.if_icmp .ge 45, 3) := by decide +kernel
theorem d_mo_restore_137 : decode prog_7_method_70_code 137 = .ok (.aload_n 0, 1) := by decide +kernel
theorem d_mo_restore_138 : decode prog_7_method_70_code 138 = .ok (.getfield 31, 3) := by decide +kernel
theorem d_mo_restore_141 : decode prog_7_method_70_code 141 = .ok (.iload_n 1, 1) := by decide +kernel
theorem d_mo_restore_142 : decode prog_7_method_70_code 142 = .ok (.aload_n 0, 1) := by decide +kernel
theorem d_mo_restore_143 : decode prog_7_method_70_code 143 = .ok (.getfield 80, 3) := by decide +kernel
theorem d_mo_restore_146 : decode prog_7_method_70_code 146 = .ok (.iload_n 1, 1) := by decide +kernel
theorem d_mo_restore_147 : decode prog_7_method_70_code 147 = .ok (.iaload, 1) := by decide +kernel
theorem d_mo_restore_148 : decode prog_7_method_70_code 148 = .ok (.iastore, 1) := by decide +kernel
theorem d_mo_restore_149 : decode prog_7_method_70_code 149 = .ok (.aload_n 0, 1) := by decide +kernel
theorem d_mo_restore_150 : decode prog_7_method_70_code 150 = .ok (.getfield 34, 3) := by decide +kernel
theorem d_mo_restore_153 : decode prog_7_method_70_code 153 = .ok (.iload_n 1, 1) := by decide +kernel
theorem d_mo_restore_154 : decode prog_7_method_70_code 154 = .ok (.aload_n 0, 1) := by decide +kernel
theorem d_mo_restore_155 : decode prog_7_method_70_code 155 = .ok (.getfield 83, 3) := by decide +kernel
theorem d_mo_restore_158 : decode prog_7_method_70_code 158 = .ok (.iload_n 1, 1) := by decide +kernel
theorem d_mo_restore_159 : decode prog_7_method_70_code 159 = .ok (.iaload, 1) := by decide +kernel
theorem d_mo_restore_160 : decode prog_7_method_70_code 160 = .ok (.iastore, 1) := by decide +kernel
theorem d_mo_restore_161 : decode prog_7_method_70_code 161 = .ok (.aload_n 0, 1) := by decide +kernel
theorem d_mo_restore_162 : decode prog_7_method_70_code 162 = .ok (.getfield 37, 3) := by decide +kernel
theorem d_mo_restore_165 : decode prog_7_method_70_code 165 = .ok (.iload_n 1, 1) := by decide +kernel
theorem d_mo_restore_166 : decode prog_7_method_70_code 166 = .ok (.aload_n 0, 1) := by decide +kernel
theorem d_mo_restore_167 : decode prog_7_method_70_code 167 = .ok (.getfield 86, 3) := by decide +kernel
theorem d_mo_restore_170 : decode prog_7_method_70_code 170 = .ok (.iload_n 1, 1) := by decide +kernel
theorem d_mo_restore_171 : decode prog_7_method_70_code 171 = .ok (.iaload, 1) := by decide +kernel
theorem d_mo_restore_172 : decode prog_7_method_70_code 172 = .ok (.iastore, 1) := by decide +kernel
theorem d_mo_restore_173 : decode prog_7_method_70_code 173 = .ok (.iinc 1 1, 3) := by decide +kernel
theorem d_mo_restore_176 : decode prog_7_method_70_code 176 = .ok (.goto (-45), 3) := by decide +kernel
theorem d_mo_restore_179 : decode prog_7_method_70_code 179 = .ok (.aload_n 0, 1) := by decide +kernel
theorem d_mo_restore_180 : decode prog_7_method_70_code 180 = .ok (.getfield 138, 3) := by decide +kernel
theorem d_mo_restore_183 : decode prog_7_method_70_code 183 = .ok (.ireturn, 1) := by decide +kernel
theorem d_mo_greatest_0 : decode prog_7_method_71_code 0 = .ok (.aload_n 0, 1) := by decide +kernel
theorem d_mo_greatest_1 : decode prog_7_method_71_code 1 = .ok (.getfield 138, 3) := by decide +kernel
theorem d_mo_greatest_4 : decode prog_7_method_71_code 4 = .ok (.ifCond .ne 7, 3) := by decide +kernel
theorem d_mo_greatest_7 : decode prog_7_method_71_code 7 = .ok (.iconst 0, 1) := by decide +kernel
theorem d_mo_greatest_8 : decode prog_7_method_71_code 8 = .ok (.goto 6, 3) := by decide +kernel
theorem d_mo_greatest_11 : decode prog_7_method_71_code 11 = .ok (.ldc_w 266, 3) := by decide +kernel
theorem d_mo_greatest_14 : decode prog_7_method_71_code 14 = .ok (.istore_n 1, 1) := by decide +kernel
theorem d_mo_greatest_15 : decode prog_7_method_71_code 15 = .ok (.iconst 0, 1) := by decide +kernel
theorem d_mo_greatest_16 : decode prog_7_method_71_code 16 = .ok (.istore_n 2, 1) := by decide +kernel
theorem d_mo_greatest_17 : decode prog_7_method_71_code 17 = .ok (.iload_n 2, 1) := by decide +kernel
theorem d_mo_greatest_18 : decode prog_7_method_71_code 18 = .ok (.aload_n 0, 1) := by decide +kernel
theorem d_mo_greatest_19 : decode prog_7_method_71_code 19 = .ok (.getfield 138, 3) := by decide +kernel
theorem d_mo_greatest_22 : decode prog_7_method_71_code 22 = .ok (.if_icmp .ge 45, 3) := by decide +kernel
theorem d_mo_greatest_25 : decode prog_7_method_71_code 25 = .ok (.iconst 0, 1) := by decide +kernel
theorem d_mo_greatest_26 : decode prog_7_method_71_code 26 = .ok (.istore_n 3, 1) := by decide +kernel
theorem d_mo_greatest_27 : decode prog_7_method_71_code 27 = .ok (.iload_n 3, 1) := by decide +kernel
theorem d_mo_greatest_28 : decode prog_7_method_71_code 28 = .ok (.sipush 144, 3) := by decide +kernel
theorem d_mo_greatest_31 : decode prog_7_method_71_code 31 = .ok (.if_icmp .ge 30, 3) := by decide +kernel
theorem d_mo_greatest_34 : decode prog_7_method_71_code 34 = .ok (.aload_n 0, 1) := by decide +kernel
theorem d_mo_greatest_35 : decode prog_7_method_71_code 35 = .ok (.iload_n 2, 1) := by decide +kernel
theorem d_mo_greatest_36 : decode prog_7_method_71_code 36 = .ok (.iload_n 3, 1) := by decide +kernel
theorem d_mo_greatest_37 : decode prog_7_method_71_code 37 = .ok (.invokevirtual 185, 3) := by decide +kernel
theorem d_mo_greatest_40 : decode prog_7_method_71_code 40 = .ok (.istore 4, 2) := by decide +kernel
theorem d_mo_greatest_42 : decode prog_7_method_71_code 42 = .ok (.iload 4, 2) := by decide +kernel
theorem d_mo_greatest_44 : decode prog_7_method_71_code 44 = .ok (.iload_n 1, 1) := by decide +kernel
theorem d_mo_greatest_45 : decode prog_7_method_71_code 45 = .ok (.if_icmp .le 8, 3) := by decide +kernel
theorem d_mo_greatest_48 : decode prog_7_method_71_code 48 = .ok (.iload 4, 2) := by decide +kernel
theorem d_mo_greatest_50 : decode prog_7_method_71_code 50 = .ok (.goto 4, 3) := by decide +kernel
theorem d_mo_greatest_53 : decode prog_7_method_71_code 53 = .ok (.iload_n 1, 1) := by decide +kernel
theorem d_mo_greatest_54 : decode prog_7_method_71_code 54 = .ok (.istore_n 1, 1) := by decide +kernel
theorem d_mo_greatest_55 : decode prog_7_method_71_code 55 = .ok (.iinc 3 1, 3) := by decide +kernel
theorem d_mo_greatest_58 : decode prog_7_method_71_code 58 = .ok (.goto (-31), 3) := by decide +kernel
theorem d_mo_greatest_61 : decode prog_7_method_71_code 61 = .ok (.iinc 2 1, 3) := by decide +kernel
theorem d_mo_greatest_64 : decode prog_7_method_71_code 64 = .ok (.goto (-47), 3) := by decide +kernel
theorem d_mo_greatest_67 : decode prog_7_method_71_code 67 = .ok (.iload_n 1, 1) := by decide +kernel
theorem d_mo_greatest_68 : decode prog_7_method_71_code 68 = .ok (.ireturn, 1) := by decide +kernel
theorem d_mo_ofPorts_0 : decode prog_7_method_72_code 0 = .ok (.iconst 0, 1) := by decide +kernel
theorem d_mo_ofPorts_1 : decode prog_7_method_72_code 1 = .ok (.istore_n 2, 1) := by decide +kernel
theorem d_mo_ofPorts_2 : decode prog_7_method_72_code 2 = .ok (.iconst 0, 1) := by decide +kernel
theorem d_mo_ofPorts_3 : decode prog_7_method_72_code 3 = .ok (.istore_n 3, 1) := by decide +kernel
theorem d_mo_ofPorts_4 : decode prog_7_method_72_code 4 = .ok (.iload_n 3, 1) := by decide +kernel
theorem d_mo_ofPorts_5 : decode prog_7_method_72_code 5 = .ok (.aload_n 0, 1) := by decide +kernel
theorem d_mo_ofPorts_6 : decode prog_7_method_72_code 6 = .ok (.getfield 138, 3) := by decide +kernel
theorem d_mo_ofPorts_9 : decode prog_7_method_72_code 9 = .ok (.if_icmp .ge 41, 3) := by decide +kernel
theorem d_mo_ofPorts_12 : decode prog_7_method_72_code 12 = .ok (.iload_n 2, 1) := by decide +kernel
theorem d_mo_ofPorts_13 : decode prog_7_method_72_code 13 = .ok (.iload_n 1, 1) := by decide +kernel
theorem d_mo_ofPorts_14 : decode prog_7_method_72_code 14 = .ok (.iconst 1, 1) := by decide +kernel
theorem d_mo_ofPorts_15 : decode prog_7_method_72_code 15 = .ok (.if_icmp .ne 12, 3) := by decide +kernel
theorem d_mo_ofPorts_18 : decode prog_7_method_72_code 18 = .ok (.aload_n 0, 1) := by decide +kernel
theorem d_mo_ofPorts_19 : decode prog_7_method_72_code 19 = .ok (.getfield 22, 3) := by decide +kernel
theorem d_mo_ofPorts_22 : decode prog_7_method_72_code 22 = .ok (.iload_n 3, 1) := by decide +kernel
theorem d_mo_ofPorts_23 : decode prog_7_method_72_code 23 = .ok (.iaload, 1) := by decide +kernel
theorem d_mo_ofPorts_24 : decode prog_7_method_72_code 24 = .ok (.goto 18, 3) := by decide +kernel
theorem d_mo_ofPorts_27 : decode prog_7_method_72_code 27 = .ok (.aload_n 0, 1) := by decide +kernel
theorem d_mo_ofPorts_28 : decode prog_7_method_72_code 28 = .ok (.getfield 7, 3) := by decide +kernel
theorem d_mo_ofPorts_31 : decode prog_7_method_72_code 31 = .ok (.iload_n 3, 1) := by decide +kernel
theorem d_mo_ofPorts_32 : decode prog_7_method_72_code 32 = .ok (.iaload, 1) := by decide +kernel
theorem d_mo_ofPorts_33 : decode prog_7_method_72_code 33 = .ok (.iconst 3, 1) := by decide +kernel
theorem d_mo_ofPorts_34 : decode prog_7_method_72_code 34 = .ok (.if_icmp .ne 7, 3) := by decide +kernel
theorem d_mo_ofPorts_37 : decode prog_7_method_72_code 37 = .ok (.iconst 1, 1) := by decide +kernel
theorem d_mo_ofPorts_38 : decode prog_7_method_72_code 38 = .ok (.goto 4, 3) := by decide +kernel
theorem d_mo_ofPorts_41 : decode prog_7_method_72_code 41 = .ok (.iconst 0, 1) := by decide +kernel
theorem d_mo_ofPorts_42 : decode prog_7_method_72_code 42 = .ok (.iadd, 1) := by decide +kernel
theorem d_mo_ofPorts_43 : decode prog_7_method_72_code 43 = .ok (.istore_n 2, 1) := by decide +kernel
theorem d_mo_ofPorts_44 : decode prog_7_method_72_code 44 = .ok (.iinc 3 1, 3) := by decide +kernel
theorem d_mo_ofPorts_47 : decode prog_7_method_72_code 47 = .ok (.goto (-43), 3) := by decide +kernel
theorem d_mo_ofPorts_50 : decode prog_7_method_72_code 50 = .ok (.iload_n 2, 1) := by decide +kernel
theorem d_mo_ofPorts_51 : decode prog_7_method_72_code 51 = .ok (.ireturn, 1) := by decide +kernel
theorem d_mo_howMany_0 : decode prog_7_method_73_code 0 = .ok (.iload_n 1, 1) := by decide +kernel
theorem d_mo_howMany_1 : decode prog_7_method_73_code 1 = .ok (.tableswitch 74 0 6 #[43, 48, 48, 54, 59, 64, 69], 43) := by decide +kernel
theorem d_mo_howMany_44 : decode prog_7_method_73_code 44 = .ok (.aload_n 0, 1) := by decide +kernel
theorem d_mo_howMany_45 : decode prog_7_method_73_code 45 = .ok (.getfield 138, 3) := by decide +kernel
end
section
theorem d_mo_howMany_48 : decode prog_7_method_73_code 48 = .ok (.ireturn, 1) := by decide +kernel
theorem d_mo_howMany_49 : decode prog_7_method_73_code 49 = .ok (.aload_n 0, 1) := by decide +kernel
theorem d_mo_howMany_50 : decode prog_7_method_73_code 50 = .ok (.iload_n 1, 1) := by decide +kernel
theorem d_mo_howMany_51 : decode prog_7_method_73_code 51 = .ok (.invokevirtual 267, 3) := by decide +kernel
theorem d_mo_howMany_54 : decode prog_7_method_73_code 54 = .ok (.ireturn, 1) := by decide +kernel
theorem d_mo_howMany_55 : decode prog_7_method_73_code 55 = .ok (.aload_n 0, 1) := by decide +kernel
theorem d_mo_howMany_56 : decode prog_7_method_73_code 56 = .ok (.invokevirtual 270, 3) := by decide +kernel
theorem d_mo_howMany_59 : decode prog_7_method_73_code 59 = .ok (.ireturn, 1) := by decide +kernel
theorem d_mo_howMany_60 : decode prog_7_method_73_code 60 = .ok (.aload_n 0, 1) := by decide +kernel
theorem d_mo_howMany_61 : decode prog_7_method_73_code 61 = .ok (.getfield 144, 3) := by decide +kernel
theorem d_mo_howMany_64 : decode prog_7_method_73_code 64 = .ok (.ireturn, 1) := by decide +kernel
theorem d_mo_howMany_65 : decode prog_7_method_73_code 65 = .ok (.aload_n 0, 1) := by decide +kernel
theorem d_mo_howMany_66 : decode prog_7_method_73_code 66 = .ok (.getfield 97, 3) := by decide +kernel
theorem d_mo_howMany_69 : decode prog_7_method_73_code 69 = .ok (.ireturn, 1) := by decide +kernel
theorem d_mo_howMany_70 : decode prog_7_method_73_code 70 = .ok (.aload_n 0, 1) := by decide +kernel
theorem d_mo_howMany_71 : decode prog_7_method_73_code 71 = .ok (.getfield 141, 3) := by decide +kernel
theorem d_mo_howMany_74 : decode prog_7_method_73_code 74 = .ok (.ireturn, 1) := by decide +kernel
theorem d_mo_howMany_75 : decode prog_7_method_73_code 75 = .ok (.sipush (-10102), 3) := by decide +kernel
theorem d_mo_howMany_78 : decode prog_7_method_73_code 78 = .ok (.ireturn, 1) := by decide +kernel
theorem d_mo_count_0 : decode prog_7_method_74_code 0 = .ok (.aload_n 0, 1) := by decide +kernel
theorem d_mo_count_1 : decode prog_7_method_74_code 1 = .ok (.iload_n 1, 1) := by decide +kernel
theorem d_mo_count_2 : decode prog_7_method_74_code 2 = .ok (.invokevirtual 273, 3) := by decide +kernel
theorem d_mo_count_5 : decode prog_7_method_74_code 5 = .ok (.ireturn, 1) := by decide +kernel
theorem d_mo_mix_0 : decode prog_7_method_75_code 0 = .ok (.aload_n 0, 1) := by decide +kernel
theorem d_mo_mix_1 : decode prog_7_method_75_code 1 = .ok (.ldc2_w 276, 3) := by decide +kernel
theorem d_mo_mix_4 : decode prog_7_method_75_code 4 = .ok (.aload_n 0, 1) := by decide +kernel
theorem d_mo_mix_5 : decode prog_7_method_75_code 5 = .ok (.getfield 278, 3) := by decide +kernel
theorem d_mo_mix_8 : decode prog_7_method_75_code 8 = .ok (.lmul, 1) := by decide +kernel
theorem d_mo_mix_9 : decode prog_7_method_75_code 9 = .ok (.lload_n 1, 1) := by decide +kernel
theorem d_mo_mix_10 : decode prog_7_method_75_code 10 = .ok (.ladd, 1) := by decide +kernel
theorem d_mo_mix_11 : decode prog_7_method_75_code 11 = .ok (.putfield 278, 3) := by decide +kernel
theorem d_mo_mix_14 : decode prog_7_method_75_code 14 = .ok (.return_, 1) := by decide +kernel
theorem d_mo_tickBy_0 : decode prog_7_method_76_code 0 = .ok (.iload_n 0, 1) := by decide +kernel
theorem d_mo_tickBy_1 : decode prog_7_method_76_code 1 = .ok (.tableswitch 51 0 4 #[35, 37, 40, 43, 47], 35) := by decide +kernel
theorem d_mo_tickBy_36 : decode prog_7_method_76_code 36 = .ok (.iconst 0, 1) := by decide +kernel
theorem d_mo_tickBy_37 : decode prog_7_method_76_code 37 = .ok (.ireturn, 1) := by decide +kernel
theorem d_mo_tickBy_38 : decode prog_7_method_76_code 38 = .ok (.bipush 7, 2) := by decide +kernel
theorem d_mo_tickBy_40 : decode prog_7_method_76_code 40 = .ok (.ireturn, 1) := by decide +kernel
theorem d_mo_tickBy_41 : decode prog_7_method_76_code 41 = .ok (.bipush 50, 2) := by decide +kernel
theorem d_mo_tickBy_43 : decode prog_7_method_76_code 43 = .ok (.ireturn, 1) := by decide +kernel
theorem d_mo_tickBy_44 : decode prog_7_method_76_code 44 = .ok (.sipush 144, 3) := by decide +kernel
theorem d_mo_tickBy_47 : decode prog_7_method_76_code 47 = .ok (.ireturn, 1) := by decide +kernel
theorem d_mo_tickBy_48 : decode prog_7_method_76_code 48 = .ok (.sipush 400, 3) := by decide +kernel
theorem d_mo_tickBy_51 : decode prog_7_method_76_code 51 = .ok (.ireturn, 1) := by decide +kernel
theorem d_mo_tickBy_52 : decode prog_7_method_76_code 52 = .ok (.sipush 1439, 3) := by decide +kernel
theorem d_mo_tickBy_55 : decode prog_7_method_76_code 55 = .ok (.ireturn, 1) := by decide +kernel
theorem d_mo_digest_0 : decode prog_7_method_77_code 0 = .ok (.aload_n 0, 1) := by decide +kernel
theorem d_mo_digest_1 : decode prog_7_method_77_code 1 = .ok (.ldc2_w 281, 3) := by decide +kernel
theorem d_mo_digest_4 : decode prog_7_method_77_code 4 = .ok (.putfield 278, 3) := by decide +kernel
theorem d_mo_digest_7 : decode prog_7_method_77_code 7 = .ok (.iconst 0, 1) := by decide +kernel
theorem d_mo_digest_8 : decode prog_7_method_77_code 8 = .ok (.istore_n 1, 1) := by decide +kernel
theorem d_mo_digest_9 : decode prog_7_method_77_code 9 = .ok (.iload_n 1, 1) := by decide +kernel
theorem d_mo_digest_10 : decode prog_7_method_77_code 10 = .ok (.aload_n 0, 1) := by decide +kernel
theorem d_mo_digest_11 : decode prog_7_method_77_code 11 = .ok (.getfield 138, 3) := by decide +kernel
theorem d_mo_digest_14 : decode prog_7_method_77_code 14 = .ok (.if_icmp .ge 112, 3) := by decide +kernel
theorem d_mo_digest_17 : decode prog_7_method_77_code 17 = .ok (.iconst 0, 1) := by decide +kernel
theorem d_mo_digest_18 : decode prog_7_method_77_code 18 = .ok (.istore_n 2, 1) := by decide +kernel
theorem d_mo_digest_19 : decode prog_7_method_77_code 19 = .ok (.iload_n 2, 1) := by decide +kernel
theorem d_mo_digest_20 : decode prog_7_method_77_code 20 = .ok (.bipush 7, 2) := by decide +kernel
theorem d_mo_digest_22 : decode prog_7_method_77_code 22 = .ok (.if_icmp .ge 20, 3) := by decide +kernel
theorem d_mo_digest_25 : decode prog_7_method_77_code 25 = .ok (.aload_n 0, 1) := by decide +kernel
theorem d_mo_digest_26 : decode prog_7_method_77_code 26 = .ok (.aload_n 0, 1) := by decide +kernel
theorem d_mo_digest_27 : decode prog_7_method_77_code 27 = .ok (.iload_n 1, 1) := by decide +kernel
theorem d_mo_digest_28 : decode prog_7_method_77_code 28 = .ok (.iload_n 2, 1) := by decide +kernel
theorem d_mo_digest_29 : decode prog_7_method_77_code 29 = .ok (.invokevirtual 156, 3) := by decide +kernel
theorem d_mo_digest_32 : decode prog_7_method_77_code 32 = .ok (.i2l, 1) := by decide +kernel
theorem d_mo_digest_33 : decode prog_7_method_77_code 33 = .ok (.invokevirtual 283, 3) := by decide +kernel
theorem d_mo_digest_36 : decode prog_7_method_77_code 36 = .ok (.iinc 2 1, 3) := by decide +kernel
theorem d_mo_digest_39 : decode prog_7_method_77_code 39 = .ok (.goto (-20), 3) := by decide +kernel
theorem d_mo_digest_42 : decode prog_7_method_77_code 42 = .ok (.iconst 0, 1) := by decide +kernel
theorem d_mo_digest_43 : decode prog_7_method_77_code 43 = .ok (.istore_n 2, 1) := by decide +kernel
theorem d_mo_digest_44 : decode prog_7_method_77_code 44 = .ok (.iload_n 2, 1) := by decide +kernel
theorem d_mo_digest_45 : decode prog_7_method_77_code 45 = .ok (.iconst 3, 1) := by decide +kernel
theorem d_mo_digest_46 : decode prog_7_method_77_code 46 = .ok (.aload_n 0, 1) := by decide +kernel
theorem d_mo_digest_47 : decode prog_7_method_77_code 47 = .ok (.getfield 22, 3) := by decide +kernel
theorem d_mo_digest_50 : decode prog_7_method_77_code 50 = .ok (.iload_n 1, 1) := by decide +kernel
theorem d_mo_digest_51 : decode prog_7_method_77_code 51 = .ok (.iaload, 1) := by decide +kernel
theorem d_mo_digest_52 : decode prog_7_method_77_code 52 = .ok (.imul, 1) := by decide +kernel
theorem d_mo_digest_53 : decode prog_7_method_77_code 53 = .ok (.if_icmp .ge 25, 3) := by decide +kernel
theorem d_mo_digest_56 : decode prog_7_method_77_code 56 = .ok (.aload_n 0, 1) := by decide +kernel
theorem d_mo_digest_57 : decode prog_7_method_77_code 57 = .ok (.aload_n 0, 1) := by decide +kernel
theorem d_mo_digest_58 : decode prog_7_method_77_code 58 = .ok (.getfield 25, 3) := by decide +kernel
theorem d_mo_digest_61 : decode prog_7_method_77_code 61 = .ok (.bipush 9, 2) := by decide +kernel
theorem d_mo_digest_63 : decode prog_7_method_77_code 63 = .ok (.iload_n 1, 1) := by decide +kernel
theorem d_mo_digest_64 : decode prog_7_method_77_code 64 = .ok (.imul, 1) := by decide +kernel
theorem d_mo_digest_65 : decode prog_7_method_77_code 65 = .ok (.iload_n 2, 1) := by decide +kernel
theorem d_mo_digest_66 : decode prog_7_method_77_code 66 = .ok (.iadd, 1) := by decide +kernel
theorem d_mo_digest_67 : decode prog_7_method_77_code 67 = .ok (.iaload, 1) := by decide +kernel
theorem d_mo_digest_68 : decode prog_7_method_77_code 68 = .ok (.i2l, 1) := by decide +kernel
theorem d_mo_digest_69 : decode prog_7_method_77_code 69 = .ok (.invokevirtual 283, 3) := by decide +kernel
theorem d_mo_digest_72 : decode prog_7_method_77_code 72 = .ok (.iinc 2 1, 3) := by decide +kernel
theorem d_mo_digest_75 : decode prog_7_method_77_code 75 = .ok (.goto (-31), 3) := by decide +kernel
theorem d_mo_digest_78 : decode prog_7_method_77_code 78 = .ok (.iconst 0, 1) := by decide +kernel
theorem d_mo_digest_79 : decode prog_7_method_77_code 79 = .ok (.istore_n 2, 1) := by decide +kernel
theorem d_mo_digest_80 : decode prog_7_method_77_code 80 = .ok (.iload_n 2, 1) := by decide +kernel
theorem d_mo_digest_81 : decode prog_7_method_77_code 81 = .ok (.bipush 6, 2) := by decide +kernel
theorem d_mo_digest_83 : decode prog_7_method_77_code 83 = .ok (.if_icmp .ge 37, 3) := by decide +kernel
theorem d_mo_digest_86 : decode prog_7_method_77_code 86 = .ok (.aload_n 0, 1) := by decide +kernel
theorem d_mo_digest_87 : decode prog_7_method_77_code 87 = .ok (.aload_n 0, 1) := by decide +kernel
theorem d_mo_digest_88 : decode prog_7_method_77_code 88 = .ok (.iload_n 1, 1) := by decide +kernel
theorem d_mo_digest_89 : decode prog_7_method_77_code 89 = .ok (.iload_n 2, 1) := by decide +kernel
theorem d_mo_digest_90 : decode prog_7_method_77_code 90 = .ok (.invokestatic 287, 3) := by decide +kernel
theorem d_mo_digest_93 : decode prog_7_method_77_code 93 = .ok (.invokevirtual 173, 3) := by decide +kernel
theorem d_mo_digest_96 : decode prog_7_method_77_code 96 = .ok (.i2l, 1) := by decide +kernel
theorem d_mo_digest_97 : decode prog_7_method_77_code 97 = .ok (.invokevirtual 283, 3) := by decide +kernel
theorem d_mo_digest_100 : decode prog_7_method_77_code 100 = .ok (.aload_n 0, 1) := by decide +kernel
theorem d_mo_digest_101 : decode prog_7_method_77_code 101 = .ok (.aload_n 0, 1) := by decide +kernel
theorem d_mo_digest_102 : decode prog_7_method_77_code 102 = .ok (.iload_n 1, 1) := by decide +kernel
theorem d_mo_digest_103 : decode prog_7_method_77_code 103 = .ok (.iload_n 2, 1) := by decide +kernel
theorem d_mo_digest_104 : decode prog_7_method_77_code 104 = .ok (.invokestatic 287, 3) := by decide +kernel
theorem d_mo_digest_107 : decode prog_7_method_77_code 107 = .ok (.invokevirtual 185, 3) := by decide +kernel
theorem d_mo_digest_110 : decode prog_7_method_77_code 110 = .ok (.i2l, 1) := by decide +kernel
theorem d_mo_digest_111 : decode prog_7_method_77_code 111 = .ok (.invokevirtual 283, 3) := by decide +kernel
theorem d_mo_digest_114 : decode prog_7_method_77_code 114 = .ok (.iinc 2 1, 3) := by decide +kernel
theorem d_mo_digest_117 : decode prog_7_method_77_code 117 = .ok (.goto (-37), 3) := by decide +kernel
theorem d_mo_digest_120 : decode prog_7_method_77_code 120 = .ok (.iinc 1 1, 3) := by decide +kernel
theorem d_mo_digest_123 : decode prog_7_method_77_code 123 = .ok (.goto (-114), 3) := by decide +kernel
theorem d_mo_digest_126 : decode prog_7_method_77_code 126 = .ok (.iconst 0, 1) := by decide +kernel
theorem d_mo_digest_127 : decode prog_7_method_77_code 127 = .ok (.istore_n 1, 1) := by decide +kernel
theorem d_mo_digest_128 : decode prog_7_method_77_code 128 = .ok (.iload_n 1, 1) := by decide +kernel
theorem d_mo_digest_129 : decode prog_7_method_77_code 129 = .ok (.aload_n 0, 1) := by decide +kernel
theorem d_mo_digest_130 : decode prog_7_method_77_code 130 = .ok (.getfield 97, 3) := by decide +kernel
theorem d_mo_digest_133 : decode prog_7_method_77_code 133 = .ok (.if_icmp .ge 20, 3) := by decide +kernel
theorem d_mo_digest_136 : decode prog_7_method_77_code 136 = .ok (.aload_n 0, 1) := by decide +kernel
theorem d_mo_digest_137 : decode prog_7_method_77_code 137 = .ok (.aload_n 0, 1) := by decide +kernel
theorem d_mo_digest_138 : decode prog_7_method_77_code 138 = .ok (.getfield 40, 3) := by decide +kernel
theorem d_mo_digest_141 : decode prog_7_method_77_code 141 = .ok (.iload_n 1, 1) := by decide +kernel
theorem d_mo_digest_142 : decode prog_7_method_77_code 142 = .ok (.baload, 1) := by decide +kernel
theorem d_mo_digest_143 : decode prog_7_method_77_code 143 = .ok (.i2l, 1) := by decide +kernel
theorem d_mo_digest_144 : decode prog_7_method_77_code 144 = .ok (.invokevirtual 283, 3) := by decide +kernel
theorem d_mo_digest_147 : decode prog_7_method_77_code 147 = .ok (.iinc 1 1, 3) := by decide +kernel
theorem d_mo_digest_150 : decode prog_7_method_77_code 150 = .ok (.goto (-22), 3) := by decide +kernel
theorem d_mo_digest_153 : decode prog_7_method_77_code 153 = .ok (.iconst 0, 1) := by decide +kernel
theorem d_mo_digest_154 : decode prog_7_method_77_code 154 = .ok (.istore_n 1, 1) := by decide +kernel
theorem d_mo_digest_155 : decode prog_7_method_77_code 155 = .ok (.iload_n 1, 1) := by decide +kernel
theorem d_mo_digest_156 : decode prog_7_method_77_code 156 = .ok (.bipush 7, 2) := by decide +kernel
theorem d_mo_digest_158 : decode prog_7_method_77_code 158 = .ok (.if_icmp .ge 19, 3) := by decide +kernel
theorem d_mo_digest_161 : decode prog_7_method_77_code 161 = .ok (.aload_n 0, 1) := by decide +kernel
theorem d_mo_digest_162 : decode prog_7_method_77_code 162 = .ok (.aload_n 0, 1) := by decide +kernel
theorem d_mo_digest_163 : decode prog_7_method_77_code 163 = .ok (.iload_n 1, 1) := by decide +kernel
theorem d_mo_digest_164 : decode prog_7_method_77_code 164 = .ok (.invokevirtual 273, 3) := by decide +kernel
theorem d_mo_digest_167 : decode prog_7_method_77_code 167 = .ok (.i2l, 1) := by decide +kernel
theorem d_mo_digest_168 : decode prog_7_method_77_code 168 = .ok (.invokevirtual 283, 3) := by decide +kernel
theorem d_mo_digest_171 : decode prog_7_method_77_code 171 = .ok (.iinc 1 1, 3) := by decide +kernel
theorem d_mo_digest_174 : decode prog_7_method_77_code 174 = .ok (.goto (-19), 3) := by decide +kernel
theorem d_mo_digest_177 : decode prog_7_method_77_code 177 = .ok (.aload_n 0, 1) := by decide +kernel
theorem d_mo_digest_178 : decode prog_7_method_77_code 178 = .ok (.getfield 278, 3) := by decide +kernel
theorem d_mo_digest_181 : decode prog_7_method_77_code 181 = .ok (.lreturn, 1) := by decide +kernel
theorem d_in_compare_0 : decode prog_9_method_40_code 0 = .ok (.iload_n 0, 1) := by decide +kernel
theorem d_in_compare_1 : decode prog_9_method_40_code 1 = .ok (.iload_n 1, 1) := by decide +kernel
theorem d_in_compare_2 : decode prog_9_method_40_code 2 = .ok (.if_icmp .ge 7, 3) := by decide +kernel
theorem d_in_compare_5 : decode prog_9_method_40_code 5 = .ok (.iconst (-1), 1) := by decide +kernel
theorem d_in_compare_6 : decode prog_9_method_40_code 6 = .ok (.goto 13, 3) := by decide +kernel
theorem d_in_compare_9 : decode prog_9_method_40_code 9 = .ok (.iload_n 0, 1) := by decide +kernel
theorem d_in_compare_10 : decode prog_9_method_40_code 10 = .ok (.iload_n 1, 1) := by decide +kernel
theorem d_in_compare_11 : decode prog_9_method_40_code 11 = .ok (.if_icmp .ne 7, 3) := by decide +kernel
theorem d_in_compare_14 : decode prog_9_method_40_code 14 = .ok (.iconst 0, 1) := by decide +kernel
theorem d_in_compare_15 : decode prog_9_method_40_code 15 = .ok (.goto 4, 3) := by decide +kernel
theorem d_in_compare_18 : decode prog_9_method_40_code 18 = .ok (.iconst 1, 1) := by decide +kernel
theorem d_in_compare_19 : decode prog_9_method_40_code 19 = .ok (.ireturn, 1) := by decide +kernel
theorem d_in_bitCount_0 : decode prog_9_method_49_code 0 = .ok (.iload_n 0, 1) := by decide +kernel
theorem d_in_bitCount_1 : decode prog_9_method_49_code 1 = .ok (.iload_n 0, 1) := by decide +kernel
theorem d_in_bitCount_2 : decode prog_9_method_49_code 2 = .ok (.iconst 1, 1) := by decide +kernel
theorem d_in_bitCount_3 : decode prog_9_method_49_code 3 = .ok (.iushr, 1) := by decide +kernel
theorem d_in_bitCount_4 : decode prog_9_method_49_code 4 = .ok (.ldc_w 265, 3) := by decide +kernel
theorem d_in_bitCount_7 : decode prog_9_method_49_code 7 = .ok (.iand, 1) := by decide +kernel
theorem d_in_bitCount_8 : decode prog_9_method_49_code 8 = .ok (.isub, 1) := by decide +kernel
theorem d_in_bitCount_9 : decode prog_9_method_49_code 9 = .ok (.istore_n 0, 1) := by decide +kernel
theorem d_in_bitCount_10 : decode prog_9_method_49_code 10 = .ok (.iload_n 0, 1) := by decide +kernel
theorem d_in_bitCount_11 : decode prog_9_method_49_code 11 = .ok (.ldc_w 266, 3) := by decide +kernel
theorem d_in_bitCount_14 : decode prog_9_method_49_code 14 = .ok (.iand, 1) := by decide +kernel
theorem d_in_bitCount_15 : decode prog_9_method_49_code 15 = .ok (.iload_n 0, 1) := by decide +kernel
theorem d_in_bitCount_16 : decode prog_9_method_49_code 16 = .ok (.iconst 2, 1) := by decide +kernel
theorem d_in_bitCount_17 : decode prog_9_method_49_code 17 = .ok (.iushr, 1) := by decide +kernel
theorem d_in_bitCount_18 : decode prog_9_method_49_code 18 = .ok (.ldc_w 266, 3) := by decide +kernel
theorem d_in_bitCount_21 : decode prog_9_method_49_code 21 = .ok (.iand, 1) := by decide +kernel
theorem d_in_bitCount_22 : decode prog_9_method_49_code 22 = .ok (.iadd, 1) := by decide +kernel
theorem d_in_bitCount_23 : decode prog_9_method_49_code 23 = .ok (.istore_n 0, 1) := by decide +kernel
theorem d_in_bitCount_24 : decode prog_9_method_49_code 24 = .ok (.iload_n 0, 1) := by decide +kernel
theorem d_in_bitCount_25 : decode prog_9_method_49_code 25 = .ok (.iload_n 0, 1) := by decide +kernel
theorem d_in_bitCount_26 : decode prog_9_method_49_code 26 = .ok (.iconst 4, 1) := by decide +kernel
theorem d_in_bitCount_27 : decode prog_9_method_49_code 27 = .ok (.iushr, 1) := by decide +kernel
theorem d_in_bitCount_28 : decode prog_9_method_49_code 28 = .ok (.iadd, 1) := by decide +kernel
theorem d_in_bitCount_29 : decode prog_9_method_49_code 29 = .ok (.ldc_w 267, 3) := by decide +kernel
theorem d_in_bitCount_32 : decode prog_9_method_49_code 32 = .ok (.iand, 1) := by decide +kernel
theorem d_in_bitCount_33 : decode prog_9_method_49_code 33 = .ok (.istore_n 0, 1) := by decide +kernel
theorem d_in_bitCount_34 : decode prog_9_method_49_code 34 = .ok (.iload_n 0, 1) := by decide +kernel
theorem d_in_bitCount_35 : decode prog_9_method_49_code 35 = .ok (.iload_n 0, 1) := by decide +kernel
theorem d_in_bitCount_36 : decode prog_9_method_49_code 36 = .ok (.bipush 8, 2) := by decide +kernel
theorem d_in_bitCount_38 : decode prog_9_method_49_code 38 = .ok (.iushr, 1) := by decide +kernel
theorem d_in_bitCount_39 : decode prog_9_method_49_code 39 = .ok (.iadd, 1) := by decide +kernel
theorem d_in_bitCount_40 : decode prog_9_method_49_code 40 = .ok (.istore_n 0, 1) := by decide +kernel
theorem d_in_bitCount_41 : decode prog_9_method_49_code 41 = .ok (.iload_n 0, 1) := by decide +kernel
theorem d_in_bitCount_42 : decode prog_9_method_49_code 42 = .ok (.iload_n 0, 1) := by decide +kernel
theorem d_in_bitCount_43 : decode prog_9_method_49_code 43 = .ok (.bipush 16, 2) := by decide +kernel
theorem d_in_bitCount_45 : decode prog_9_method_49_code 45 = .ok (.iushr, 1) := by decide +kernel
theorem d_in_bitCount_46 : decode prog_9_method_49_code 46 = .ok (.iadd, 1) := by decide +kernel
theorem d_in_bitCount_47 : decode prog_9_method_49_code 47 = .ok (.istore_n 0, 1) := by decide +kernel
theorem d_in_bitCount_48 : decode prog_9_method_49_code 48 = .ok (.iload_n 0, 1) := by decide +kernel
theorem d_in_bitCount_49 : decode prog_9_method_49_code 49 = .ok (.bipush 63, 2) := by decide +kernel
theorem d_in_bitCount_51 : decode prog_9_method_49_code 51 = .ok (.iand, 1) := by decide +kernel
theorem d_in_bitCount_52 : decode prog_9_method_49_code 52 = .ok (.ireturn, 1) := by decide +kernel
theorem d_ma_floorDiv_0 : decode prog_10_method_47_code 0 = .ok (.iload_n 0, 1) := by decide +kernel
theorem d_ma_floorDiv_1 : decode prog_10_method_47_code 1 = .ok (.iload_n 1, 1) := by decide +kernel
theorem d_ma_floorDiv_2 : decode prog_10_method_47_code 2 = .ok (.idiv, 1) := by decide +kernel
theorem d_ma_floorDiv_3 : decode prog_10_method_47_code 3 = .ok (.istore_n 2, 1) := by decide +kernel
theorem d_ma_floorDiv_4 : decode prog_10_method_47_code 4 = .ok (.iload_n 0, 1) := by decide +kernel
theorem d_ma_floorDiv_5 : decode prog_10_method_47_code 5 = .ok (.iload_n 1, 1) := by decide +kernel
theorem d_ma_floorDiv_6 : decode prog_10_method_47_code 6 = .ok (.ixor, 1) := by decide +kernel
theorem d_ma_floorDiv_7 : decode prog_10_method_47_code 7 = .ok (.ifCond .ge 14, 3) := by decide +kernel
theorem d_ma_floorDiv_10 : decode prog_10_method_47_code 10 = .ok (.iload_n 2, 1) := by decide +kernel
theorem d_ma_floorDiv_11 : decode prog_10_method_47_code 11 = .ok (.iload_n 1, 1) := by decide +kernel
theorem d_ma_floorDiv_12 : decode prog_10_method_47_code 12 = .ok (.imul, 1) := by decide +kernel
theorem d_ma_floorDiv_13 : decode prog_10_method_47_code 13 = .ok (.iload_n 0, 1) := by decide +kernel
theorem d_ma_floorDiv_14 : decode prog_10_method_47_code 14 = .ok (.if_icmp .eq 7, 3) := by decide +kernel
theorem d_ma_floorDiv_17 : decode prog_10_method_47_code 17 = .ok (.iload_n 2, 1) := by decide +kernel
theorem d_ma_floorDiv_18 : decode prog_10_method_47_code 18 = .ok (.iconst 1, 1) := by decide +kernel
theorem d_ma_floorDiv_19 : decode prog_10_method_47_code 19 = .ok (.isub, 1) := by decide +kernel
theorem d_ma_floorDiv_20 : decode prog_10_method_47_code 20 = .ok (.ireturn, 1) := by decide +kernel
theorem d_ma_floorDiv_21 : decode prog_10_method_47_code 21 = .ok (.iload_n 2, 1) := by decide +kernel
theorem d_ma_floorDiv_22 : decode prog_10_method_47_code 22 = .ok (.ireturn, 1) := by decide +kernel
theorem d_ma_max_0 : decode prog_10_method_65_code 0 = .ok (.iload_n 0, 1) := by decide +kernel
theorem d_ma_max_1 : decode prog_10_method_65_code 1 = .ok (.iload_n 1, 1) := by decide +kernel
theorem d_ma_max_2 : decode prog_10_method_65_code 2 = .ok (.if_icmp .lt 7, 3) := by decide +kernel
theorem d_ma_max_5 : decode prog_10_method_65_code 5 = .ok (.iload_n 0, 1) := by decide +kernel
theorem d_ma_max_6 : decode prog_10_method_65_code 6 = .ok (.goto 4, 3) := by decide +kernel
theorem d_ma_max_9 : decode prog_10_method_65_code 9 = .ok (.iload_n 1, 1) := by decide +kernel
theorem d_ma_max_10 : decode prog_10_method_65_code 10 = .ok (.ireturn, 1) := by decide +kernel
theorem d_ma_min_0 : decode prog_10_method_69_code 0 = .ok (.iload_n 0, 1) := by decide +kernel
theorem d_ma_min_1 : decode prog_10_method_69_code 1 = .ok (.iload_n 1, 1) := by decide +kernel
theorem d_ma_min_2 : decode prog_10_method_69_code 2 = .ok (.if_icmp .gt 7, 3) := by decide +kernel
theorem d_ma_min_5 : decode prog_10_method_69_code 5 = .ok (.iload_n 0, 1) := by decide +kernel
theorem d_ma_min_6 : decode prog_10_method_69_code 6 = .ok (.goto 4, 3) := by decide +kernel
theorem d_ma_min_9 : decode prog_10_method_69_code 9 = .ok (.iload_n 1, 1) := by decide +kernel
theorem d_ma_min_10 : decode prog_10_method_69_code 10 = .ok (.ireturn, 1) := by decide +kernel
theorem d_sr_length_0 : decode prog_11_method_54_code 0 = .ok (.aload_n 0, 1) := by decide +kernel
theorem d_sr_length_1 : decode prog_11_method_54_code 1 = .ok (.getfield 9, 3) := by decide +kernel
theorem d_sr_length_4 : decode prog_11_method_54_code 4 = .ok (.arraylength, 1) := by decide +kernel
theorem d_sr_length_5 : decode prog_11_method_54_code 5 = .ok (.aload_n 0, 1) := by decide +kernel
theorem d_sr_length_6 : decode prog_11_method_54_code 6 = .ok (.invokevirtual 335, 3) := by decide +kernel
theorem d_sr_length_9 : decode prog_11_method_54_code 9 = .ok (.ishr, 1) := by decide +kernel
theorem d_sr_length_10 : decode prog_11_method_54_code 10 = .ok (.ireturn, 1) := by decide +kernel
theorem d_sr_indexOf_0 : decode prog_11_method_79_code 0 = .ok (.aload_n 0, 1) := by decide +kernel
theorem d_sr_indexOf_1 : decode prog_11_method_79_code 1 = .ok (.iload_n 1, 1) := by decide +kernel
theorem d_sr_indexOf_2 : decode prog_11_method_79_code 2 = .ok (.iconst 0, 1) := by decide +kernel
theorem d_sr_indexOf_3 : decode prog_11_method_79_code 3 = .ok (.invokevirtual 633, 3) := by decide +kernel
theorem d_sr_indexOf_6 : decode prog_11_method_79_code 6 = .ok (.ireturn, 1) := by decide +kernel
theorem d_sr_indexOf2_0 : decode prog_11_method_80_code 0 = .ok (.aload_n 0, 1) := by decide +kernel
theorem d_sr_indexOf2_1 : decode prog_11_method_80_code 1 = .ok (.invokevirtual 492, 3) := by decide +kernel
theorem d_sr_indexOf2_4 : decode prog_11_method_80_code 4 = .ok (.ifCond .eq 19, 3) := by decide +kernel
theorem d_sr_indexOf2_7 : decode prog_11_method_80_code 7 = .ok (.aload_n 0, 1) := by decide +kernel
theorem d_sr_indexOf2_8 : decode prog_11_method_80_code 8 = .ok (.getfield 9, 3) := by decide +kernel
theorem d_sr_indexOf2_11 : decode prog_11_method_80_code 11 = .ok (.iload_n 1, 1) := by decide +kernel
theorem d_sr_indexOf2_12 : decode prog_11_method_80_code 12 = .ok (.iload_n 2, 1) := by decide +kernel
theorem d_sr_indexOf2_13 : decode prog_11_method_80_code 13 = .ok (.aload_n 0, 1) := by decide +kernel
theorem d_sr_indexOf2_14 : decode prog_11_method_80_code 14 = .ok (.invokevirtual 505, 3) := by decide +kernel
theorem d_sr_indexOf2_17 : decode prog_11_method_80_code 17 = .ok (.invokestatic 637, 3) := by decide +kernel
theorem d_sr_indexOf2_20 : decode prog_11_method_80_code 20 = .ok (.goto 16, 3) := by decide +kernel
theorem d_sr_indexOf2_23 : decode prog_11_method_80_code 23 = .ok (.aload_n 0, 1) := by decide +kernel
theorem d_sr_indexOf2_24 : decode prog_11_method_80_code 24 = .ok (.getfield 9, 3) := by decide +kernel
theorem d_sr_indexOf2_27 : decode prog_11_method_80_code 27 = .ok (.iload_n 1, 1) := by decide +kernel
theorem d_sr_indexOf2_28 : decode prog_11_method_80_code 28 = .ok (.iload_n 2, 1) := by decide +kernel
theorem d_sr_indexOf2_29 : decode prog_11_method_80_code 29 = .ok (.aload_n 0, 1) := by decide +kernel
theorem d_sr_indexOf2_30 : decode prog_11_method_80_code 30 = .ok (.invokevirtual 505, 3) := by decide +kernel
theorem d_sr_indexOf2_33 : decode prog_11_method_80_code 33 = .ok (.invokestatic 640, 3) := by decide +kernel
theorem d_sr_indexOf2_36 : decode prog_11_method_80_code 36 = .ok (.ireturn, 1) := by decide +kernel
theorem d_sr_coder_0 : decode prog_11_method_152_code 0 = .ok (.getstatic 38, 3) := by decide +kernel
theorem d_sr_coder_3 : decode prog_11_method_152_code 3 = .ok (.ifCond .eq 10, 3) := by decide +kernel
theorem d_sr_coder_6 : decode prog_11_method_152_code 6 = .ok (.aload_n 0, 1) := by decide +kernel
theorem d_sr_coder_7 : decode prog_11_method_152_code 7 = .ok (.getfield 15, 3) := by decide +kernel
theorem d_sr_coder_10 : decode prog_11_method_152_code 10 = .ok (.goto 4, 3) := by decide +kernel
theorem d_sr_coder_13 : decode prog_11_method_152_code 13 = .ok (.iconst 1, 1) := by decide +kernel
theorem d_sr_coder_14 : decode prog_11_method_152_code 14 = .ok (.ireturn, 1) := by decide +kernel
theorem d_sr_isLatin1_0 : decode prog_11_method_154_code 0 = .ok (.getstatic 38, 3) := by decide +kernel
theorem d_sr_isLatin1_3 : decode prog_11_method_154_code 3 = .ok (.ifCond .eq 14, 3) := by decide +kernel
theorem d_sr_isLatin1_6 : decode prog_11_method_154_code 6 = .ok (.aload_n 0, 1) := by decide +kernel
theorem d_sr_isLatin1_7 : decode prog_11_method_154_code 7 = .ok (.getfield 15, 3) := by decide +kernel
theorem d_sr_isLatin1_10 : decode prog_11_method_154_code 10 = .ok (.ifCond .ne 7, 3) := by decide +kernel
theorem d_sr_isLatin1_13 : decode prog_11_method_154_code 13 = .ok (.iconst 1, 1) := by decide +kernel
theorem d_sr_isLatin1_14 : decode prog_11_method_154_code 14 = .ok (.goto 4, 3) := by decide +kernel
theorem d_sr_isLatin1_17 : decode prog_11_method_154_code 17 = .ok (.iconst 0, 1) := by decide +kernel
theorem d_sr_isLatin1_18 : decode prog_11_method_154_code 18 = .ok (.ireturn, 1) := by decide +kernel
theorem d_sr_checkBoundsBeginEnd_0 : decode prog_11_method_158_code 0 = .ok (.iload_n 0, 1) := by decide +kernel
theorem d_sr_checkBoundsBeginEnd_1 : decode prog_11_method_158_code 1 = .ok (.iload_n 1, 1) := by decide +kernel
theorem d_sr_checkBoundsBeginEnd_2 : decode prog_11_method_158_code 2 = .ok (.iload_n 2, 1) := by decide +kernel
theorem d_sr_checkBoundsBeginEnd_3 : decode prog_11_method_158_code 3 = .ok (.getstatic 1053, 3) := by decide +kernel
theorem d_sr_checkBoundsBeginEnd_6 : decode prog_11_method_158_code 6 = .ok (.invokestatic 1062, 3) := by decide +kernel
theorem d_sr_checkBoundsBeginEnd_9 : decode prog_11_method_158_code 9 = .ok (.pop, 1) := by decide +kernel
theorem d_sr_checkBoundsBeginEnd_10 : decode prog_11_method_158_code 10 = .ok (.return_, 1) := by decide +kernel
theorem d_sl_canEncode_0 : decode prog_12_method_4_code 0 = .ok (.iload_n 0, 1) := by decide +kernel
theorem d_sl_canEncode_1 : decode prog_12_method_4_code 1 = .ok (.ifCond .lt 14, 3) := by decide +kernel
theorem d_sl_canEncode_4 : decode prog_12_method_4_code 4 = .ok (.iload_n 0, 1) := by decide +kernel
theorem d_sl_canEncode_5 : decode prog_12_method_4_code 5 = .ok (.sipush 255, 3) := by decide +kernel
theorem d_sl_canEncode_8 : decode prog_12_method_4_code 8 = .ok (.if_icmp .gt 7, 3) := by decide +kernel
theorem d_sl_canEncode_11 : decode prog_12_method_4_code 11 = .ok (.iconst 1, 1) := by decide +kernel
theorem d_sl_canEncode_12 : decode prog_12_method_4_code 12 = .ok (.goto 4, 3) := by decide +kernel
theorem d_sl_canEncode_15 : decode prog_12_method_4_code 15 = .ok (.iconst 0, 1) := by decide +kernel
theorem d_sl_canEncode_16 : decode prog_12_method_4_code 16 = .ok (.ireturn, 1) := by decide +kernel
theorem d_sl_indexOf_0 : decode prog_12_method_22_code 0 = .ok (.iload_n 1, 1) := by decide +kernel
theorem d_sl_indexOf_1 : decode prog_12_method_22_code 1 = .ok (.invokestatic 88, 3) := by decide +kernel
theorem d_sl_indexOf_4 : decode prog_12_method_22_code 4 = .ok (.ifCond .ne 5, 3) := by decide +kernel
theorem d_sl_indexOf_7 : decode prog_12_method_22_code 7 = .ok (.iconst (-1), 1) := by decide +kernel
theorem d_sl_indexOf_8 : decode prog_12_method_22_code 8 = .ok (.ireturn, 1) := by decide +kernel
theorem d_sl_indexOf_9 : decode prog_12_method_22_code 9 = .ok (.iload_n 2, 1) := by decide +kernel
theorem d_sl_indexOf_10 : decode prog_12_method_22_code 10 = .ok (.iconst 0, 1) := by decide +kernel
theorem d_sl_indexOf_11 : decode prog_12_method_22_code 11 = .ok (.invokestatic 92, 3) := by decide +kernel
theorem d_sl_indexOf_14 : decode prog_12_method_22_code 14 = .ok (.istore_n 2, 1) := by decide +kernel
theorem d_sl_indexOf_15 : decode prog_12_method_22_code 15 = .ok (.iload_n 3, 1) := by decide +kernel
theorem d_sl_indexOf_16 : decode prog_12_method_22_code 16 = .ok (.aload_n 0, 1) := by decide +kernel
theorem d_sl_indexOf_17 : decode prog_12_method_22_code 17 = .ok (.arraylength, 1) := by decide +kernel
theorem d_sl_indexOf_18 : decode prog_12_method_22_code 18 = .ok (.invokestatic 38, 3) := by decide +kernel
theorem d_sl_indexOf_21 : decode prog_12_method_22_code 21 = .ok (.istore_n 3, 1) := by decide +kernel
theorem d_sl_indexOf_22 : decode prog_12_method_22_code 22 = .ok (.iload_n 2, 1) := by decide +kernel
theorem d_sl_indexOf_23 : decode prog_12_method_22_code 23 = .ok (.iload_n 3, 1) := by decide +kernel
theorem d_sl_indexOf_24 : decode prog_12_method_22_code 24 = .ok (.if_icmp .lt 5, 3) := by decide +kernel
theorem d_sl_indexOf_27 : decode prog_12_method_22_code 27 = .ok (.iconst (-1), 1) := by decide +kernel
theorem d_sl_indexOf_28 : decode prog_12_method_22_code 28 = .ok (.ireturn, 1) := by decide +kernel
theorem d_sl_indexOf_29 : decode prog_12_method_22_code 29 = .ok (.aload_n 0, 1) := by decide +kernel
theorem d_sl_indexOf_30 : decode prog_12_method_22_code 30 = .ok (.iload_n 1, 1) := by decide +kernel
theorem d_sl_indexOf_31 : decode prog_12_method_22_code 31 = .ok (.iload_n 2, 1) := by decide +kernel
theorem d_sl_indexOf_32 : decode prog_12_method_22_code 32 = .ok (.iload_n 3, 1) := by decide +kernel
theorem d_sl_indexOf_33 : decode prog_12_method_22_code 33 = .ok (.invokestatic 95, 3) := by decide +kernel
theorem d_sl_indexOf_36 : decode prog_12_method_22_code 36 = .ok (.ireturn, 1) := by decide +kernel
theorem d_sl_indexOfChar_0 : decode prog_12_method_23_code 0 = .ok (.iload_n 1, 1) := by decide +kernel
theorem d_sl_indexOfChar_1 : decode prog_12_method_23_code 1 = .ok (.i2b, 1) := by decide +kernel
theorem d_sl_indexOfChar_2 : decode prog_12_method_23_code 2 = .ok (.istore 4, 2) := by decide +kernel
theorem d_sl_indexOfChar_4 : decode prog_12_method_23_code 4 = .ok (.iload_n 2, 1) := by decide +kernel
theorem d_sl_indexOfChar_5 : decode prog_12_method_23_code 5 = .ok (.istore 5, 2) := by decide +kernel
theorem d_sl_indexOfChar_7 : decode prog_12_method_23_code 7 = .ok (.iload 5, 2) := by decide +kernel
theorem d_sl_indexOfChar_9 : decode prog_12_method_23_code 9 = .ok (.iload_n 3, 1) := by decide +kernel
theorem d_sl_indexOfChar_10 : decode prog_12_method_23_code 10 = .ok (.if_icmp .ge 21, 3) := by decide +kernel
theorem d_sl_indexOfChar_13 : decode prog_12_method_23_code 13 = .ok (.aload_n 0, 1) := by decide +kernel
theorem d_sl_indexOfChar_14 : decode prog_12_method_23_code 14 = .ok (.iload 5, 2) := by decide +kernel
theorem d_sl_indexOfChar_16 : decode prog_12_method_23_code 16 = .ok (.baload, 1) := by decide +kernel
theorem d_sl_indexOfChar_17 : decode prog_12_method_23_code 17 = .ok (.iload 4, 2) := by decide +kernel
theorem d_sl_indexOfChar_19 : decode prog_12_method_23_code 19 = .ok (.if_icmp .ne 6, 3) := by decide +kernel
theorem d_sl_indexOfChar_22 : decode prog_12_method_23_code 22 = .ok (.iload 5, 2) := by decide +kernel
theorem d_sl_indexOfChar_24 : decode prog_12_method_23_code 24 = .ok (.ireturn, 1) := by decide +kernel
theorem d_sl_indexOfChar_25 : decode prog_12_method_23_code 25 = .ok (.iinc 5 1, 3) := by decide +kernel
theorem d_sl_indexOfChar_28 : decode prog_12_method_23_code 28 = .ok (.goto (-21), 3) := by decide +kernel
theorem d_sl_indexOfChar_31 : decode prog_12_method_23_code 31 = .ok (.iconst (-1), 1) := by decide +kernel
theorem d_sl_indexOfChar_32 : decode prog_12_method_23_code 32 = .ok (.ireturn, 1) := by decide +kernel
theorem d_law_0 : decode code 0 = .ok (.new 7, 3) := by decide +kernel
theorem d_law_3 : decode code 3 = .ok (.dup, 1) := by decide +kernel
theorem d_law_4 : decode code 4 = .ok (.invokespecial 9, 3) := by decide +kernel
theorem d_law_7 : decode code 7 = .ok (.astore_n 1, 1) := by decide +kernel
theorem d_law_8 : decode code 8 = .ok (.new 10, 3) := by decide +kernel
theorem d_law_11 : decode code 11 = .ok (.dup, 1) := by decide +kernel
theorem d_law_12 : decode code 12 = .ok (.invokespecial 12, 3) := by decide +kernel
theorem d_law_15 : decode code 15 = .ok (.astore_n 2, 1) := by decide +kernel
theorem d_law_16 : decode code 16 = .ok (.iconst 0, 1) := by decide +kernel
theorem d_law_17 : decode code 17 = .ok (.istore_n 3, 1) := by decide +kernel
theorem d_law_18 : decode code 18 = .ok (.iload_n 3, 1) := by decide +kernel
theorem d_law_19 : decode code 19 = .ok (.aload_n 0, 1) := by decide +kernel
theorem d_law_20 : decode code 20 = .ok (.arraylength, 1) := by decide +kernel
theorem d_law_21 : decode code 21 = .ok (.bipush 6, 2) := by decide +kernel
theorem d_law_23 : decode code 23 = .ok (.isub, 1) := by decide +kernel
theorem d_law_24 : decode code 24 = .ok (.if_icmp .gt 1167, 3) := by decide +kernel
theorem d_law_27 : decode code 27 = .ok (.aload_n 0, 1) := by decide +kernel
theorem d_law_28 : decode code 28 = .ok (.iload_n 3, 1) := by decide +kernel
theorem d_law_29 : decode code 29 = .ok (.iaload, 1) := by decide +kernel
theorem d_law_30 : decode code 30 = .ok (.bipush 31, 2) := by decide +kernel
theorem d_law_32 : decode code 32 = .ok (.iand, 1) := by decide +kernel
theorem d_law_33 : decode code 33 = .ok (.tableswitch 1152 0 29 #[135, 158, 171, 184, 197, 230, 273, 306, 329, 362, 395, 448, 511, 554, 597, 640, 693, 756, 789, 822, 855, 908, 941, 974, 1033, 1046, 1089, 1102, 1115, 1138], 135) := by decide +kernel
theorem d_law_168 : decode code 168 = .ok (.aload_n 1, 1) := by decide +kernel
theorem d_law_169 : decode code 169 = .ok (.aload_n 0, 1) := by decide +kernel
theorem d_law_170 : decode code 170 = .ok (.iload_n 3, 1) := by decide +kernel
theorem d_law_171 : decode code 171 = .ok (.iconst 1, 1) := by decide +kernel
theorem d_law_172 : decode code 172 = .ok (.iadd, 1) := by decide +kernel
theorem d_law_173 : decode code 173 = .ok (.iaload, 1) := by decide +kernel
theorem d_law_174 : decode code 174 = .ok (.invokevirtual 13, 3) := by decide +kernel
theorem d_law_177 : decode code 177 = .ok (.aload_n 2, 1) := by decide +kernel
theorem d_law_178 : decode code 178 = .ok (.aload_n 0, 1) := by decide +kernel
theorem d_law_179 : decode code 179 = .ok (.iload_n 3, 1) := by decide +kernel
theorem d_law_180 : decode code 180 = .ok (.iconst 1, 1) := by decide +kernel
theorem d_law_181 : decode code 181 = .ok (.iadd, 1) := by decide +kernel
theorem d_law_182 : decode code 182 = .ok (.iaload, 1) := by decide +kernel
theorem d_law_183 : decode code 183 = .ok (.invokevirtual 17, 3) := by decide +kernel
theorem d_law_186 : decode code 186 = .ok (.if_icmp .eq 999, 3) := by decide +kernel
theorem d_law_189 : decode code 189 = .ok (.iconst 0, 1) := by decide +kernel
theorem d_law_190 : decode code 190 = .ok (.ireturn, 1) := by decide +kernel
theorem d_law_191 : decode code 191 = .ok (.aload_n 1, 1) := by decide +kernel
theorem d_law_192 : decode code 192 = .ok (.invokevirtual 18, 3) := by decide +kernel
theorem d_law_195 : decode code 195 = .ok (.aload_n 2, 1) := by decide +kernel
theorem d_law_196 : decode code 196 = .ok (.invokevirtual 22, 3) := by decide +kernel
theorem d_law_199 : decode code 199 = .ok (.if_icmp .eq 986, 3) := by decide +kernel
theorem d_law_202 : decode code 202 = .ok (.iconst 0, 1) := by decide +kernel
theorem d_law_203 : decode code 203 = .ok (.ireturn, 1) := by decide +kernel
theorem d_law_204 : decode code 204 = .ok (.aload_n 1, 1) := by decide +kernel
theorem d_law_205 : decode code 205 = .ok (.invokevirtual 23, 3) := by decide +kernel
theorem d_law_208 : decode code 208 = .ok (.aload_n 2, 1) := by decide +kernel
theorem d_law_209 : decode code 209 = .ok (.invokevirtual 26, 3) := by decide +kernel
theorem d_law_212 : decode code 212 = .ok (.if_icmp .eq 973, 3) := by decide +kernel
theorem d_law_215 : decode code 215 = .ok (.iconst 0, 1) := by decide +kernel
theorem d_law_216 : decode code 216 = .ok (.ireturn, 1) := by decide +kernel
theorem d_law_217 : decode code 217 = .ok (.aload_n 1, 1) := by decide +kernel
theorem d_law_218 : decode code 218 = .ok (.invokevirtual 27, 3) := by decide +kernel
theorem d_law_221 : decode code 221 = .ok (.aload_n 2, 1) := by decide +kernel
theorem d_law_222 : decode code 222 = .ok (.invokevirtual 30, 3) := by decide +kernel
theorem d_law_225 : decode code 225 = .ok (.if_icmp .eq 960, 3) := by decide +kernel
theorem d_law_228 : decode code 228 = .ok (.iconst 0, 1) := by decide +kernel
theorem d_law_229 : decode code 229 = .ok (.ireturn, 1) := by decide +kernel
theorem d_law_230 : decode code 230 = .ok (.aload_n 1, 1) := by decide +kernel
theorem d_law_231 : decode code 231 = .ok (.aload_n 0, 1) := by decide +kernel
theorem d_law_232 : decode code 232 = .ok (.iload_n 3, 1) := by decide +kernel
theorem d_law_233 : decode code 233 = .ok (.iconst 1, 1) := by decide +kernel
theorem d_law_234 : decode code 234 = .ok (.iadd, 1) := by decide +kernel
theorem d_law_235 : decode code 235 = .ok (.iaload, 1) := by decide +kernel
theorem d_law_236 : decode code 236 = .ok (.aload_n 0, 1) := by decide +kernel
theorem d_law_237 : decode code 237 = .ok (.iload_n 3, 1) := by decide +kernel
theorem d_law_238 : decode code 238 = .ok (.iconst 2, 1) := by decide +kernel
theorem d_law_239 : decode code 239 = .ok (.iadd, 1) := by decide +kernel
theorem d_law_240 : decode code 240 = .ok (.iaload, 1) := by decide +kernel
theorem d_law_241 : decode code 241 = .ok (.invokevirtual 31, 3) := by decide +kernel
theorem d_law_244 : decode code 244 = .ok (.aload_n 2, 1) := by decide +kernel
theorem d_law_245 : decode code 245 = .ok (.aload_n 0, 1) := by decide +kernel
theorem d_law_246 : decode code 246 = .ok (.iload_n 3, 1) := by decide +kernel
theorem d_law_247 : decode code 247 = .ok (.iconst 1, 1) := by decide +kernel
theorem d_law_248 : decode code 248 = .ok (.iadd, 1) := by decide +kernel
theorem d_law_249 : decode code 249 = .ok (.iaload, 1) := by decide +kernel
theorem d_law_250 : decode code 250 = .ok (.aload_n 0, 1) := by decide +kernel
theorem d_law_251 : decode code 251 = .ok (.iload_n 3, 1) := by decide +kernel
theorem d_law_252 : decode code 252 = .ok (.iconst 2, 1) := by decide +kernel
theorem d_law_253 : decode code 253 = .ok (.iadd, 1) := by decide +kernel
theorem d_law_254 : decode code 254 = .ok (.iaload, 1) := by decide +kernel
theorem d_law_255 : decode code 255 = .ok (.invokevirtual 35, 3) := by decide +kernel
theorem d_law_258 : decode code 258 = .ok (.if_icmp .eq 927, 3) := by decide +kernel
theorem d_law_261 : decode code 261 = .ok (.iconst 0, 1) := by decide +kernel
theorem d_law_262 : decode code 262 = .ok (.ireturn, 1) := by decide +kernel
theorem d_law_263 : decode code 263 = .ok (.aload_n 1, 1) := by decide +kernel
theorem d_law_264 : decode code 264 = .ok (.aload_n 0, 1) := by decide +kernel
theorem d_law_265 : decode code 265 = .ok (.iload_n 3, 1) := by decide +kernel
theorem d_law_266 : decode code 266 = .ok (.iconst 1, 1) := by decide +kernel
theorem d_law_267 : decode code 267 = .ok (.iadd, 1) := by decide +kernel
theorem d_law_268 : decode code 268 = .ok (.iaload, 1) := by decide +kernel
theorem d_law_269 : decode code 269 = .ok (.aload_n 0, 1) := by decide +kernel
theorem d_law_270 : decode code 270 = .ok (.iload_n 3, 1) := by decide +kernel
theorem d_law_271 : decode code 271 = .ok (.iconst 2, 1) := by decide +kernel
theorem d_law_272 : decode code 272 = .ok (.iadd, 1) := by decide +kernel
theorem d_law_273 : decode code 273 = .ok (.iaload, 1) := by decide +kernel
theorem d_law_274 : decode code 274 = .ok (.aload_n 0, 1) := by decide +kernel
theorem d_law_275 : decode code 275 = .ok (.iload_n 3, 1) := by decide +kernel
theorem d_law_276 : decode code 276 = .ok (.iconst 3, 1) := by decide +kernel
theorem d_law_277 : decode code 277 = .ok (.iadd, 1) := by decide +kernel
theorem d_law_278 : decode code 278 = .ok (.iaload, 1) := by decide +kernel
theorem d_law_279 : decode code 279 = .ok (.invokevirtual 36, 3) := by decide +kernel
theorem d_law_282 : decode code 282 = .ok (.aload_n 2, 1) := by decide +kernel
theorem d_law_283 : decode code 283 = .ok (.aload_n 0, 1) := by decide +kernel
theorem d_law_284 : decode code 284 = .ok (.iload_n 3, 1) := by decide +kernel
theorem d_law_285 : decode code 285 = .ok (.iconst 1, 1) := by decide +kernel
theorem d_law_286 : decode code 286 = .ok (.iadd, 1) := by decide +kernel
theorem d_law_287 : decode code 287 = .ok (.iaload, 1) := by decide +kernel
theorem d_law_288 : decode code 288 = .ok (.aload_n 0, 1) := by decide +kernel
theorem d_law_289 : decode code 289 = .ok (.iload_n 3, 1) := by decide +kernel
theorem d_law_290 : decode code 290 = .ok (.iconst 2, 1) := by decide +kernel
theorem d_law_291 : decode code 291 = .ok (.iadd, 1) := by decide +kernel
theorem d_law_292 : decode code 292 = .ok (.iaload, 1) := by decide +kernel
theorem d_law_293 : decode code 293 = .ok (.aload_n 0, 1) := by decide +kernel
theorem d_law_294 : decode code 294 = .ok (.iload_n 3, 1) := by decide +kernel
theorem d_law_295 : decode code 295 = .ok (.iconst 3, 1) := by decide +kernel
theorem d_law_296 : decode code 296 = .ok (.iadd, 1) := by decide +kernel
theorem d_law_297 : decode code 297 = .ok (.iaload, 1) := by decide +kernel
theorem d_law_298 : decode code 298 = .ok (.invokevirtual 40, 3) := by decide +kernel
theorem d_law_301 : decode code 301 = .ok (.if_icmp .eq 884, 3) := by decide +kernel
theorem d_law_304 : decode code 304 = .ok (.iconst 0, 1) := by decide +kernel
theorem d_law_305 : decode code 305 = .ok (.ireturn, 1) := by decide +kernel
theorem d_law_306 : decode code 306 = .ok (.aload_n 1, 1) := by decide +kernel
theorem d_law_307 : decode code 307 = .ok (.aload_n 0, 1) := by decide +kernel
theorem d_law_308 : decode code 308 = .ok (.iload_n 3, 1) := by decide +kernel
theorem d_law_309 : decode code 309 = .ok (.iconst 1, 1) := by decide +kernel
theorem d_law_310 : decode code 310 = .ok (.iadd, 1) := by decide +kernel
theorem d_law_311 : decode code 311 = .ok (.iaload, 1) := by decide +kernel
theorem d_law_312 : decode code 312 = .ok (.aload_n 0, 1) := by decide +kernel
theorem d_law_313 : decode code 313 = .ok (.iload_n 3, 1) := by decide +kernel
theorem d_law_314 : decode code 314 = .ok (.iconst 2, 1) := by decide +kernel
theorem d_law_315 : decode code 315 = .ok (.iadd, 1) := by decide +kernel
theorem d_law_316 : decode code 316 = .ok (.iaload, 1) := by decide +kernel
theorem d_law_317 : decode code 317 = .ok (.invokevirtual 41, 3) := by decide +kernel
theorem d_law_320 : decode code 320 = .ok (.aload_n 2, 1) := by decide +kernel
theorem d_law_321 : decode code 321 = .ok (.aload_n 0, 1) := by decide +kernel
theorem d_law_322 : decode code 322 = .ok (.iload_n 3, 1) := by decide +kernel
theorem d_law_323 : decode code 323 = .ok (.iconst 1, 1) := by decide +kernel
theorem d_law_324 : decode code 324 = .ok (.iadd, 1) := by decide +kernel
theorem d_law_325 : decode code 325 = .ok (.iaload, 1) := by decide +kernel
theorem d_law_326 : decode code 326 = .ok (.aload_n 0, 1) := by decide +kernel
theorem d_law_327 : decode code 327 = .ok (.iload_n 3, 1) := by decide +kernel
theorem d_law_328 : decode code 328 = .ok (.iconst 2, 1) := by decide +kernel
theorem d_law_329 : decode code 329 = .ok (.iadd, 1) := by decide +kernel
theorem d_law_330 : decode code 330 = .ok (.iaload, 1) := by decide +kernel
theorem d_law_331 : decode code 331 = .ok (.invokevirtual 44, 3) := by decide +kernel
theorem d_law_334 : decode code 334 = .ok (.if_icmp .eq 851, 3) := by decide +kernel
theorem d_law_337 : decode code 337 = .ok (.iconst 0, 1) := by decide +kernel
theorem d_law_338 : decode code 338 = .ok (.ireturn, 1) := by decide +kernel
theorem d_law_339 : decode code 339 = .ok (.aload_n 1, 1) := by decide +kernel
theorem d_law_340 : decode code 340 = .ok (.aload_n 0, 1) := by decide +kernel
theorem d_law_341 : decode code 341 = .ok (.iload_n 3, 1) := by decide +kernel
theorem d_law_342 : decode code 342 = .ok (.iconst 1, 1) := by decide +kernel
theorem d_law_343 : decode code 343 = .ok (.iadd, 1) := by decide +kernel
theorem d_law_344 : decode code 344 = .ok (.iaload, 1) := by decide +kernel
theorem d_law_345 : decode code 345 = .ok (.invokevirtual 45, 3) := by decide +kernel
theorem d_law_348 : decode code 348 = .ok (.aload_n 2, 1) := by decide +kernel
theorem d_law_349 : decode code 349 = .ok (.aload_n 0, 1) := by decide +kernel
theorem d_law_350 : decode code 350 = .ok (.iload_n 3, 1) := by decide +kernel
theorem d_law_351 : decode code 351 = .ok (.iconst 1, 1) := by decide +kernel
theorem d_law_352 : decode code 352 = .ok (.iadd, 1) := by decide +kernel
theorem d_law_353 : decode code 353 = .ok (.iaload, 1) := by decide +kernel
theorem d_law_354 : decode code 354 = .ok (.invokevirtual 48, 3) := by decide +kernel
theorem d_law_357 : decode code 357 = .ok (.if_icmp .eq 828, 3) := by decide +kernel
theorem d_law_360 : decode code 360 = .ok (.iconst 0, 1) := by decide +kernel
theorem d_law_361 : decode code 361 = .ok (.ireturn, 1) := by decide +kernel
theorem d_law_362 : decode code 362 = .ok (.aload_n 1, 1) := by decide +kernel
theorem d_law_363 : decode code 363 = .ok (.aload_n 0, 1) := by decide +kernel
theorem d_law_364 : decode code 364 = .ok (.iload_n 3, 1) := by decide +kernel
theorem d_law_365 : decode code 365 = .ok (.iconst 1, 1) := by decide +kernel
theorem d_law_366 : decode code 366 = .ok (.iadd, 1) := by decide +kernel
theorem d_law_367 : decode code 367 = .ok (.iaload, 1) := by decide +kernel
theorem d_law_368 : decode code 368 = .ok (.aload_n 0, 1) := by decide +kernel
theorem d_law_369 : decode code 369 = .ok (.iload_n 3, 1) := by decide +kernel
theorem d_law_370 : decode code 370 = .ok (.iconst 2, 1) := by decide +kernel
theorem d_law_371 : decode code 371 = .ok (.iadd, 1) := by decide +kernel
theorem d_law_372 : decode code 372 = .ok (.iaload, 1) := by decide +kernel
theorem d_law_373 : decode code 373 = .ok (.invokevirtual 49, 3) := by decide +kernel
theorem d_law_376 : decode code 376 = .ok (.aload_n 2, 1) := by decide +kernel
theorem d_law_377 : decode code 377 = .ok (.aload_n 0, 1) := by decide +kernel
theorem d_law_378 : decode code 378 = .ok (.iload_n 3, 1) := by decide +kernel
theorem d_law_379 : decode code 379 = .ok (.iconst 1, 1) := by decide +kernel
theorem d_law_380 : decode code 380 = .ok (.iadd, 1) := by decide +kernel
theorem d_law_381 : decode code 381 = .ok (.iaload, 1) := by decide +kernel
theorem d_law_382 : decode code 382 = .ok (.aload_n 0, 1) := by decide +kernel
theorem d_law_383 : decode code 383 = .ok (.iload_n 3, 1) := by decide +kernel
theorem d_law_384 : decode code 384 = .ok (.iconst 2, 1) := by decide +kernel
theorem d_law_385 : decode code 385 = .ok (.iadd, 1) := by decide +kernel
theorem d_law_386 : decode code 386 = .ok (.iaload, 1) := by decide +kernel
theorem d_law_387 : decode code 387 = .ok (.invokevirtual 52, 3) := by decide +kernel
theorem d_law_390 : decode code 390 = .ok (.if_icmp .eq 795, 3) := by decide +kernel
theorem d_law_393 : decode code 393 = .ok (.iconst 0, 1) := by decide +kernel
theorem d_law_394 : decode code 394 = .ok (.ireturn, 1) := by decide +kernel
theorem d_law_395 : decode code 395 = .ok (.aload_n 1, 1) := by decide +kernel
theorem d_law_396 : decode code 396 = .ok (.aload_n 0, 1) := by decide +kernel
theorem d_law_397 : decode code 397 = .ok (.iload_n 3, 1) := by decide +kernel
theorem d_law_398 : decode code 398 = .ok (.iconst 1, 1) := by decide +kernel
theorem d_law_399 : decode code 399 = .ok (.iadd, 1) := by decide +kernel
theorem d_law_400 : decode code 400 = .ok (.iaload, 1) := by decide +kernel
theorem d_law_401 : decode code 401 = .ok (.aload_n 0, 1) := by decide +kernel
theorem d_law_402 : decode code 402 = .ok (.iload_n 3, 1) := by decide +kernel
theorem d_law_403 : decode code 403 = .ok (.iconst 2, 1) := by decide +kernel
theorem d_law_404 : decode code 404 = .ok (.iadd, 1) := by decide +kernel
theorem d_law_405 : decode code 405 = .ok (.iaload, 1) := by decide +kernel
theorem d_law_406 : decode code 406 = .ok (.invokevirtual 53, 3) := by decide +kernel
theorem d_law_409 : decode code 409 = .ok (.aload_n 2, 1) := by decide +kernel
theorem d_law_410 : decode code 410 = .ok (.aload_n 0, 1) := by decide +kernel
theorem d_law_411 : decode code 411 = .ok (.iload_n 3, 1) := by decide +kernel
theorem d_law_412 : decode code 412 = .ok (.iconst 1, 1) := by decide +kernel
theorem d_law_413 : decode code 413 = .ok (.iadd, 1) := by decide +kernel
theorem d_law_414 : decode code 414 = .ok (.iaload, 1) := by decide +kernel
theorem d_law_415 : decode code 415 = .ok (.aload_n 0, 1) := by decide +kernel
theorem d_law_416 : decode code 416 = .ok (.iload_n 3, 1) := by decide +kernel
theorem d_law_417 : decode code 417 = .ok (.iconst 2, 1) := by decide +kernel
theorem d_law_418 : decode code 418 = .ok (.iadd, 1) := by decide +kernel
theorem d_law_419 : decode code 419 = .ok (.iaload, 1) := by decide +kernel
theorem d_law_420 : decode code 420 = .ok (.invokevirtual 56, 3) := by decide +kernel
theorem d_law_423 : decode code 423 = .ok (.if_icmp .eq 762, 3) := by decide +kernel
theorem d_law_426 : decode code 426 = .ok (.iconst 0, 1) := by decide +kernel
theorem d_law_427 : decode code 427 = .ok (.ireturn, 1) := by decide +kernel
theorem d_law_428 : decode code 428 = .ok (.aload_n 1, 1) := by decide +kernel
theorem d_law_429 : decode code 429 = .ok (.aload_n 0, 1) := by decide +kernel
theorem d_law_430 : decode code 430 = .ok (.iload_n 3, 1) := by decide +kernel
theorem d_law_431 : decode code 431 = .ok (.iconst 1, 1) := by decide +kernel
theorem d_law_432 : decode code 432 = .ok (.iadd, 1) := by decide +kernel
theorem d_law_433 : decode code 433 = .ok (.iaload, 1) := by decide +kernel
theorem d_law_434 : decode code 434 = .ok (.aload_n 0, 1) := by decide +kernel
theorem d_law_435 : decode code 435 = .ok (.iload_n 3, 1) := by decide +kernel
theorem d_law_436 : decode code 436 = .ok (.iconst 2, 1) := by decide +kernel
theorem d_law_437 : decode code 437 = .ok (.iadd, 1) := by decide +kernel
theorem d_law_438 : decode code 438 = .ok (.iaload, 1) := by decide +kernel
theorem d_law_439 : decode code 439 = .ok (.aload_n 0, 1) := by decide +kernel
theorem d_law_440 : decode code 440 = .ok (.iload_n 3, 1) := by decide +kernel
theorem d_law_441 : decode code 441 = .ok (.iconst 3, 1) := by decide +kernel
theorem d_law_442 : decode code 442 = .ok (.iadd, 1) := by decide +kernel
theorem d_law_443 : decode code 443 = .ok (.iaload, 1) := by decide +kernel
theorem d_law_444 : decode code 444 = .ok (.aload_n 0, 1) := by decide +kernel
theorem d_law_445 : decode code 445 = .ok (.iload_n 3, 1) := by decide +kernel
theorem d_law_446 : decode code 446 = .ok (.iconst 4, 1) := by decide +kernel
theorem d_law_447 : decode code 447 = .ok (.iadd, 1) := by decide +kernel
theorem d_law_448 : decode code 448 = .ok (.iaload, 1) := by decide +kernel
theorem d_law_449 : decode code 449 = .ok (.invokevirtual 57, 3) := by decide +kernel
theorem d_law_452 : decode code 452 = .ok (.aload_n 2, 1) := by decide +kernel
theorem d_law_453 : decode code 453 = .ok (.aload_n 0, 1) := by decide +kernel
theorem d_law_454 : decode code 454 = .ok (.iload_n 3, 1) := by decide +kernel
theorem d_law_455 : decode code 455 = .ok (.iconst 1, 1) := by decide +kernel
theorem d_law_456 : decode code 456 = .ok (.iadd, 1) := by decide +kernel
theorem d_law_457 : decode code 457 = .ok (.iaload, 1) := by decide +kernel
theorem d_law_458 : decode code 458 = .ok (.aload_n 0, 1) := by decide +kernel
theorem d_law_459 : decode code 459 = .ok (.iload_n 3, 1) := by decide +kernel
theorem d_law_460 : decode code 460 = .ok (.iconst 2, 1) := by decide +kernel
theorem d_law_461 : decode code 461 = .ok (.iadd, 1) := by decide +kernel
theorem d_law_462 : decode code 462 = .ok (.iaload, 1) := by decide +kernel
theorem d_law_463 : decode code 463 = .ok (.aload_n 0, 1) := by decide +kernel
theorem d_law_464 : decode code 464 = .ok (.iload_n 3, 1) := by decide +kernel
theorem d_law_465 : decode code 465 = .ok (.iconst 3, 1) := by decide +kernel
theorem d_law_466 : decode code 466 = .ok (.iadd, 1) := by decide +kernel
theorem d_law_467 : decode code 467 = .ok (.iaload, 1) := by decide +kernel
theorem d_law_468 : decode code 468 = .ok (.aload_n 0, 1) := by decide +kernel
theorem d_law_469 : decode code 469 = .ok (.iload_n 3, 1) := by decide +kernel
theorem d_law_470 : decode code 470 = .ok (.iconst 4, 1) := by decide +kernel
theorem d_law_471 : decode code 471 = .ok (.iadd, 1) := by decide +kernel
theorem d_law_472 : decode code 472 = .ok (.iaload, 1) := by decide +kernel
theorem d_law_473 : decode code 473 = .ok (.invokevirtual 61, 3) := by decide +kernel
theorem d_law_476 : decode code 476 = .ok (.if_icmp .eq 709, 3) := by decide +kernel
theorem d_law_479 : decode code 479 = .ok (.iconst 0, 1) := by decide +kernel
theorem d_law_480 : decode code 480 = .ok (.ireturn, 1) := by decide +kernel
theorem d_law_481 : decode code 481 = .ok (.aload_n 1, 1) := by decide +kernel
theorem d_law_482 : decode code 482 = .ok (.aload_n 0, 1) := by decide +kernel
theorem d_law_483 : decode code 483 = .ok (.iload_n 3, 1) := by decide +kernel
theorem d_law_484 : decode code 484 = .ok (.iconst 1, 1) := by decide +kernel
theorem d_law_485 : decode code 485 = .ok (.iadd, 1) := by decide +kernel
theorem d_law_486 : decode code 486 = .ok (.iaload, 1) := by decide +kernel
theorem d_law_487 : decode code 487 = .ok (.aload_n 0, 1) := by decide +kernel
theorem d_law_488 : decode code 488 = .ok (.iload_n 3, 1) := by decide +kernel
theorem d_law_489 : decode code 489 = .ok (.iconst 2, 1) := by decide +kernel
theorem d_law_490 : decode code 490 = .ok (.iadd, 1) := by decide +kernel
theorem d_law_491 : decode code 491 = .ok (.iaload, 1) := by decide +kernel
theorem d_law_492 : decode code 492 = .ok (.aload_n 0, 1) := by decide +kernel
theorem d_law_493 : decode code 493 = .ok (.iload_n 3, 1) := by decide +kernel
theorem d_law_494 : decode code 494 = .ok (.iconst 3, 1) := by decide +kernel
theorem d_law_495 : decode code 495 = .ok (.iadd, 1) := by decide +kernel
theorem d_law_496 : decode code 496 = .ok (.iaload, 1) := by decide +kernel
theorem d_law_497 : decode code 497 = .ok (.aload_n 0, 1) := by decide +kernel
theorem d_law_498 : decode code 498 = .ok (.iload_n 3, 1) := by decide +kernel
theorem d_law_499 : decode code 499 = .ok (.iconst 4, 1) := by decide +kernel
theorem d_law_500 : decode code 500 = .ok (.iadd, 1) := by decide +kernel
theorem d_law_501 : decode code 501 = .ok (.iaload, 1) := by decide +kernel
theorem d_law_502 : decode code 502 = .ok (.aload_n 0, 1) := by decide +kernel
theorem d_law_503 : decode code 503 = .ok (.iload_n 3, 1) := by decide +kernel
theorem d_law_504 : decode code 504 = .ok (.iconst 5, 1) := by decide +kernel
theorem d_law_505 : decode code 505 = .ok (.iadd, 1) := by decide +kernel
theorem d_law_506 : decode code 506 = .ok (.iaload, 1) := by decide +kernel
theorem d_law_507 : decode code 507 = .ok (.invokevirtual 62, 3) := by decide +kernel
theorem d_law_510 : decode code 510 = .ok (.aload_n 2, 1) := by decide +kernel
theorem d_law_511 : decode code 511 = .ok (.aload_n 0, 1) := by decide +kernel
theorem d_law_512 : decode code 512 = .ok (.iload_n 3, 1) := by decide +kernel
theorem d_law_513 : decode code 513 = .ok (.iconst 1, 1) := by decide +kernel
theorem d_law_514 : decode code 514 = .ok (.iadd, 1) := by decide +kernel
theorem d_law_515 : decode code 515 = .ok (.iaload, 1) := by decide +kernel
theorem d_law_516 : decode code 516 = .ok (.aload_n 0, 1) := by decide +kernel
theorem d_law_517 : decode code 517 = .ok (.iload_n 3, 1) := by decide +kernel
theorem d_law_518 : decode code 518 = .ok (.iconst 2, 1) := by decide +kernel
theorem d_law_519 : decode code 519 = .ok (.iadd, 1) := by decide +kernel
theorem d_law_520 : decode code 520 = .ok (.iaload, 1) := by decide +kernel
theorem d_law_521 : decode code 521 = .ok (.aload_n 0, 1) := by decide +kernel
theorem d_law_522 : decode code 522 = .ok (.iload_n 3, 1) := by decide +kernel
theorem d_law_523 : decode code 523 = .ok (.iconst 3, 1) := by decide +kernel
theorem d_law_524 : decode code 524 = .ok (.iadd, 1) := by decide +kernel
theorem d_law_525 : decode code 525 = .ok (.iaload, 1) := by decide +kernel
theorem d_law_526 : decode code 526 = .ok (.aload_n 0, 1) := by decide +kernel
theorem d_law_527 : decode code 527 = .ok (.iload_n 3, 1) := by decide +kernel
theorem d_law_528 : decode code 528 = .ok (.iconst 4, 1) := by decide +kernel
theorem d_law_529 : decode code 529 = .ok (.iadd, 1) := by decide +kernel
theorem d_law_530 : decode code 530 = .ok (.iaload, 1) := by decide +kernel
theorem d_law_531 : decode code 531 = .ok (.aload_n 0, 1) := by decide +kernel
theorem d_law_532 : decode code 532 = .ok (.iload_n 3, 1) := by decide +kernel
theorem d_law_533 : decode code 533 = .ok (.iconst 5, 1) := by decide +kernel
theorem d_law_534 : decode code 534 = .ok (.iadd, 1) := by decide +kernel
theorem d_law_535 : decode code 535 = .ok (.iaload, 1) := by decide +kernel
theorem d_law_536 : decode code 536 = .ok (.invokevirtual 66, 3) := by decide +kernel
theorem d_law_539 : decode code 539 = .ok (.if_icmp .eq 646, 3) := by decide +kernel
theorem d_law_542 : decode code 542 = .ok (.iconst 0, 1) := by decide +kernel
theorem d_law_543 : decode code 543 = .ok (.ireturn, 1) := by decide +kernel
theorem d_law_544 : decode code 544 = .ok (.aload_n 1, 1) := by decide +kernel
theorem d_law_545 : decode code 545 = .ok (.aload_n 0, 1) := by decide +kernel
theorem d_law_546 : decode code 546 = .ok (.iload_n 3, 1) := by decide +kernel
theorem d_law_547 : decode code 547 = .ok (.iconst 1, 1) := by decide +kernel
theorem d_law_548 : decode code 548 = .ok (.iadd, 1) := by decide +kernel
theorem d_law_549 : decode code 549 = .ok (.iaload, 1) := by decide +kernel
theorem d_law_550 : decode code 550 = .ok (.aload_n 0, 1) := by decide +kernel
theorem d_law_551 : decode code 551 = .ok (.iload_n 3, 1) := by decide +kernel
theorem d_law_552 : decode code 552 = .ok (.iconst 2, 1) := by decide +kernel
theorem d_law_553 : decode code 553 = .ok (.iadd, 1) := by decide +kernel
theorem d_law_554 : decode code 554 = .ok (.iaload, 1) := by decide +kernel
theorem d_law_555 : decode code 555 = .ok (.aload_n 0, 1) := by decide +kernel
theorem d_law_556 : decode code 556 = .ok (.iload_n 3, 1) := by decide +kernel
theorem d_law_557 : decode code 557 = .ok (.iconst 3, 1) := by decide +kernel
theorem d_law_558 : decode code 558 = .ok (.iadd, 1) := by decide +kernel
theorem d_law_559 : decode code 559 = .ok (.iaload, 1) := by decide +kernel
theorem d_law_560 : decode code 560 = .ok (.invokevirtual 67, 3) := by decide +kernel
theorem d_law_563 : decode code 563 = .ok (.aload_n 2, 1) := by decide +kernel
theorem d_law_564 : decode code 564 = .ok (.aload_n 0, 1) := by decide +kernel
theorem d_law_565 : decode code 565 = .ok (.iload_n 3, 1) := by decide +kernel
theorem d_law_566 : decode code 566 = .ok (.iconst 1, 1) := by decide +kernel
theorem d_law_567 : decode code 567 = .ok (.iadd, 1) := by decide +kernel
theorem d_law_568 : decode code 568 = .ok (.iaload, 1) := by decide +kernel
theorem d_law_569 : decode code 569 = .ok (.aload_n 0, 1) := by decide +kernel
theorem d_law_570 : decode code 570 = .ok (.iload_n 3, 1) := by decide +kernel
theorem d_law_571 : decode code 571 = .ok (.iconst 2, 1) := by decide +kernel
theorem d_law_572 : decode code 572 = .ok (.iadd, 1) := by decide +kernel
theorem d_law_573 : decode code 573 = .ok (.iaload, 1) := by decide +kernel
theorem d_law_574 : decode code 574 = .ok (.aload_n 0, 1) := by decide +kernel
theorem d_law_575 : decode code 575 = .ok (.iload_n 3, 1) := by decide +kernel
theorem d_law_576 : decode code 576 = .ok (.iconst 3, 1) := by decide +kernel
theorem d_law_577 : decode code 577 = .ok (.iadd, 1) := by decide +kernel
theorem d_law_578 : decode code 578 = .ok (.iaload, 1) := by decide +kernel
theorem d_law_579 : decode code 579 = .ok (.invokevirtual 70, 3) := by decide +kernel
theorem d_law_582 : decode code 582 = .ok (.if_icmp .eq 603, 3) := by decide +kernel
theorem d_law_585 : decode code 585 = .ok (.iconst 0, 1) := by decide +kernel
theorem d_law_586 : decode code 586 = .ok (.ireturn, 1) := by decide +kernel
theorem d_law_587 : decode code 587 = .ok (.aload_n 1, 1) := by decide +kernel
theorem d_law_588 : decode code 588 = .ok (.aload_n 0, 1) := by decide +kernel
theorem d_law_589 : decode code 589 = .ok (.iload_n 3, 1) := by decide +kernel
theorem d_law_590 : decode code 590 = .ok (.iconst 1, 1) := by decide +kernel
theorem d_law_591 : decode code 591 = .ok (.iadd, 1) := by decide +kernel
theorem d_law_592 : decode code 592 = .ok (.iaload, 1) := by decide +kernel
theorem d_law_593 : decode code 593 = .ok (.aload_n 0, 1) := by decide +kernel
theorem d_law_594 : decode code 594 = .ok (.iload_n 3, 1) := by decide +kernel
theorem d_law_595 : decode code 595 = .ok (.iconst 2, 1) := by decide +kernel
theorem d_law_596 : decode code 596 = .ok (.iadd, 1) := by decide +kernel
theorem d_law_597 : decode code 597 = .ok (.iaload, 1) := by decide +kernel
theorem d_law_598 : decode code 598 = .ok (.aload_n 0, 1) := by decide +kernel
theorem d_law_599 : decode code 599 = .ok (.iload_n 3, 1) := by decide +kernel
theorem d_law_600 : decode code 600 = .ok (.iconst 3, 1) := by decide +kernel
theorem d_law_601 : decode code 601 = .ok (.iadd, 1) := by decide +kernel
theorem d_law_602 : decode code 602 = .ok (.iaload, 1) := by decide +kernel
theorem d_law_603 : decode code 603 = .ok (.invokevirtual 71, 3) := by decide +kernel
theorem d_law_606 : decode code 606 = .ok (.aload_n 2, 1) := by decide +kernel
theorem d_law_607 : decode code 607 = .ok (.aload_n 0, 1) := by decide +kernel
theorem d_law_608 : decode code 608 = .ok (.iload_n 3, 1) := by decide +kernel
theorem d_law_609 : decode code 609 = .ok (.iconst 1, 1) := by decide +kernel
theorem d_law_610 : decode code 610 = .ok (.iadd, 1) := by decide +kernel
theorem d_law_611 : decode code 611 = .ok (.iaload, 1) := by decide +kernel
theorem d_law_612 : decode code 612 = .ok (.aload_n 0, 1) := by decide +kernel
theorem d_law_613 : decode code 613 = .ok (.iload_n 3, 1) := by decide +kernel
theorem d_law_614 : decode code 614 = .ok (.iconst 2, 1) := by decide +kernel
theorem d_law_615 : decode code 615 = .ok (.iadd, 1) := by decide +kernel
theorem d_law_616 : decode code 616 = .ok (.iaload, 1) := by decide +kernel
theorem d_law_617 : decode code 617 = .ok (.aload_n 0, 1) := by decide +kernel
theorem d_law_618 : decode code 618 = .ok (.iload_n 3, 1) := by decide +kernel
theorem d_law_619 : decode code 619 = .ok (.iconst 3, 1) := by decide +kernel
theorem d_law_620 : decode code 620 = .ok (.iadd, 1) := by decide +kernel
theorem d_law_621 : decode code 621 = .ok (.iaload, 1) := by decide +kernel
theorem d_law_622 : decode code 622 = .ok (.invokevirtual 74, 3) := by decide +kernel
theorem d_law_625 : decode code 625 = .ok (.if_icmp .eq 560, 3) := by decide +kernel
theorem d_law_628 : decode code 628 = .ok (.iconst 0, 1) := by decide +kernel
theorem d_law_629 : decode code 629 = .ok (.ireturn, 1) := by decide +kernel
theorem d_law_630 : decode code 630 = .ok (.aload_n 1, 1) := by decide +kernel
theorem d_law_631 : decode code 631 = .ok (.aload_n 0, 1) := by decide +kernel
theorem d_law_632 : decode code 632 = .ok (.iload_n 3, 1) := by decide +kernel
theorem d_law_633 : decode code 633 = .ok (.iconst 1, 1) := by decide +kernel
theorem d_law_634 : decode code 634 = .ok (.iadd, 1) := by decide +kernel
theorem d_law_635 : decode code 635 = .ok (.iaload, 1) := by decide +kernel
theorem d_law_636 : decode code 636 = .ok (.aload_n 0, 1) := by decide +kernel
theorem d_law_637 : decode code 637 = .ok (.iload_n 3, 1) := by decide +kernel
theorem d_law_638 : decode code 638 = .ok (.iconst 2, 1) := by decide +kernel
theorem d_law_639 : decode code 639 = .ok (.iadd, 1) := by decide +kernel
theorem d_law_640 : decode code 640 = .ok (.iaload, 1) := by decide +kernel
theorem d_law_641 : decode code 641 = .ok (.aload_n 0, 1) := by decide +kernel
theorem d_law_642 : decode code 642 = .ok (.iload_n 3, 1) := by decide +kernel
theorem d_law_643 : decode code 643 = .ok (.iconst 3, 1) := by decide +kernel
theorem d_law_644 : decode code 644 = .ok (.iadd, 1) := by decide +kernel
theorem d_law_645 : decode code 645 = .ok (.iaload, 1) := by decide +kernel
theorem d_law_646 : decode code 646 = .ok (.invokevirtual 75, 3) := by decide +kernel
theorem d_law_649 : decode code 649 = .ok (.aload_n 2, 1) := by decide +kernel
theorem d_law_650 : decode code 650 = .ok (.aload_n 0, 1) := by decide +kernel
theorem d_law_651 : decode code 651 = .ok (.iload_n 3, 1) := by decide +kernel
theorem d_law_652 : decode code 652 = .ok (.iconst 1, 1) := by decide +kernel
theorem d_law_653 : decode code 653 = .ok (.iadd, 1) := by decide +kernel
theorem d_law_654 : decode code 654 = .ok (.iaload, 1) := by decide +kernel
theorem d_law_655 : decode code 655 = .ok (.aload_n 0, 1) := by decide +kernel
theorem d_law_656 : decode code 656 = .ok (.iload_n 3, 1) := by decide +kernel
theorem d_law_657 : decode code 657 = .ok (.iconst 2, 1) := by decide +kernel
theorem d_law_658 : decode code 658 = .ok (.iadd, 1) := by decide +kernel
theorem d_law_659 : decode code 659 = .ok (.iaload, 1) := by decide +kernel
theorem d_law_660 : decode code 660 = .ok (.aload_n 0, 1) := by decide +kernel
theorem d_law_661 : decode code 661 = .ok (.iload_n 3, 1) := by decide +kernel
theorem d_law_662 : decode code 662 = .ok (.iconst 3, 1) := by decide +kernel
theorem d_law_663 : decode code 663 = .ok (.iadd, 1) := by decide +kernel
theorem d_law_664 : decode code 664 = .ok (.iaload, 1) := by decide +kernel
theorem d_law_665 : decode code 665 = .ok (.invokevirtual 78, 3) := by decide +kernel
theorem d_law_668 : decode code 668 = .ok (.if_icmp .eq 517, 3) := by decide +kernel
theorem d_law_671 : decode code 671 = .ok (.iconst 0, 1) := by decide +kernel
theorem d_law_672 : decode code 672 = .ok (.ireturn, 1) := by decide +kernel
theorem d_law_673 : decode code 673 = .ok (.aload_n 1, 1) := by decide +kernel
theorem d_law_674 : decode code 674 = .ok (.aload_n 0, 1) := by decide +kernel
theorem d_law_675 : decode code 675 = .ok (.iload_n 3, 1) := by decide +kernel
theorem d_law_676 : decode code 676 = .ok (.iconst 1, 1) := by decide +kernel
theorem d_law_677 : decode code 677 = .ok (.iadd, 1) := by decide +kernel
theorem d_law_678 : decode code 678 = .ok (.iaload, 1) := by decide +kernel
theorem d_law_679 : decode code 679 = .ok (.aload_n 0, 1) := by decide +kernel
theorem d_law_680 : decode code 680 = .ok (.iload_n 3, 1) := by decide +kernel
theorem d_law_681 : decode code 681 = .ok (.iconst 2, 1) := by decide +kernel
theorem d_law_682 : decode code 682 = .ok (.iadd, 1) := by decide +kernel
theorem d_law_683 : decode code 683 = .ok (.iaload, 1) := by decide +kernel
theorem d_law_684 : decode code 684 = .ok (.aload_n 0, 1) := by decide +kernel
theorem d_law_685 : decode code 685 = .ok (.iload_n 3, 1) := by decide +kernel
theorem d_law_686 : decode code 686 = .ok (.iconst 3, 1) := by decide +kernel
theorem d_law_687 : decode code 687 = .ok (.iadd, 1) := by decide +kernel
theorem d_law_688 : decode code 688 = .ok (.iaload, 1) := by decide +kernel
theorem d_law_689 : decode code 689 = .ok (.aload_n 0, 1) := by decide +kernel
theorem d_law_690 : decode code 690 = .ok (.iload_n 3, 1) := by decide +kernel
theorem d_law_691 : decode code 691 = .ok (.iconst 4, 1) := by decide +kernel
theorem d_law_692 : decode code 692 = .ok (.iadd, 1) := by decide +kernel
theorem d_law_693 : decode code 693 = .ok (.iaload, 1) := by decide +kernel
theorem d_law_694 : decode code 694 = .ok (.invokevirtual 79, 3) := by decide +kernel
theorem d_law_697 : decode code 697 = .ok (.aload_n 2, 1) := by decide +kernel
theorem d_law_698 : decode code 698 = .ok (.aload_n 0, 1) := by decide +kernel
theorem d_law_699 : decode code 699 = .ok (.iload_n 3, 1) := by decide +kernel
theorem d_law_700 : decode code 700 = .ok (.iconst 1, 1) := by decide +kernel
theorem d_law_701 : decode code 701 = .ok (.iadd, 1) := by decide +kernel
theorem d_law_702 : decode code 702 = .ok (.iaload, 1) := by decide +kernel
theorem d_law_703 : decode code 703 = .ok (.aload_n 0, 1) := by decide +kernel
theorem d_law_704 : decode code 704 = .ok (.iload_n 3, 1) := by decide +kernel
theorem d_law_705 : decode code 705 = .ok (.iconst 2, 1) := by decide +kernel
theorem d_law_706 : decode code 706 = .ok (.iadd, 1) := by decide +kernel
theorem d_law_707 : decode code 707 = .ok (.iaload, 1) := by decide +kernel
theorem d_law_708 : decode code 708 = .ok (.aload_n 0, 1) := by decide +kernel
theorem d_law_709 : decode code 709 = .ok (.iload_n 3, 1) := by decide +kernel
theorem d_law_710 : decode code 710 = .ok (.iconst 3, 1) := by decide +kernel
theorem d_law_711 : decode code 711 = .ok (.iadd, 1) := by decide +kernel
theorem d_law_712 : decode code 712 = .ok (.iaload, 1) := by decide +kernel
theorem d_law_713 : decode code 713 = .ok (.aload_n 0, 1) := by decide +kernel
theorem d_law_714 : decode code 714 = .ok (.iload_n 3, 1) := by decide +kernel
theorem d_law_715 : decode code 715 = .ok (.iconst 4, 1) := by decide +kernel
theorem d_law_716 : decode code 716 = .ok (.iadd, 1) := by decide +kernel
theorem d_law_717 : decode code 717 = .ok (.iaload, 1) := by decide +kernel
theorem d_law_718 : decode code 718 = .ok (.invokevirtual 82, 3) := by decide +kernel
theorem d_law_721 : decode code 721 = .ok (.if_icmp .eq 464, 3) := by decide +kernel
theorem d_law_724 : decode code 724 = .ok (.iconst 0, 1) := by decide +kernel
theorem d_law_725 : decode code 725 = .ok (.ireturn, 1) := by decide +kernel
theorem d_law_726 : decode code 726 = .ok (.aload_n 1, 1) := by decide +kernel
theorem d_law_727 : decode code 727 = .ok (.aload_n 0, 1) := by decide +kernel
theorem d_law_728 : decode code 728 = .ok (.iload_n 3, 1) := by decide +kernel
theorem d_law_729 : decode code 729 = .ok (.iconst 1, 1) := by decide +kernel
theorem d_law_730 : decode code 730 = .ok (.iadd, 1) := by decide +kernel
theorem d_law_731 : decode code 731 = .ok (.iaload, 1) := by decide +kernel
theorem d_law_732 : decode code 732 = .ok (.aload_n 0, 1) := by decide +kernel
theorem d_law_733 : decode code 733 = .ok (.iload_n 3, 1) := by decide +kernel
theorem d_law_734 : decode code 734 = .ok (.iconst 2, 1) := by decide +kernel
theorem d_law_735 : decode code 735 = .ok (.iadd, 1) := by decide +kernel
theorem d_law_736 : decode code 736 = .ok (.iaload, 1) := by decide +kernel
theorem d_law_737 : decode code 737 = .ok (.aload_n 0, 1) := by decide +kernel
theorem d_law_738 : decode code 738 = .ok (.iload_n 3, 1) := by decide +kernel
theorem d_law_739 : decode code 739 = .ok (.iconst 3, 1) := by decide +kernel
theorem d_law_740 : decode code 740 = .ok (.iadd, 1) := by decide +kernel
theorem d_law_741 : decode code 741 = .ok (.iaload, 1) := by decide +kernel
theorem d_law_742 : decode code 742 = .ok (.aload_n 0, 1) := by decide +kernel
theorem d_law_743 : decode code 743 = .ok (.iload_n 3, 1) := by decide +kernel
theorem d_law_744 : decode code 744 = .ok (.iconst 4, 1) := by decide +kernel
theorem d_law_745 : decode code 745 = .ok (.iadd, 1) := by decide +kernel
theorem d_law_746 : decode code 746 = .ok (.iaload, 1) := by decide +kernel
theorem d_law_747 : decode code 747 = .ok (.aload_n 0, 1) := by decide +kernel
theorem d_law_748 : decode code 748 = .ok (.iload_n 3, 1) := by decide +kernel
theorem d_law_749 : decode code 749 = .ok (.iconst 5, 1) := by decide +kernel
theorem d_law_750 : decode code 750 = .ok (.iadd, 1) := by decide +kernel
theorem d_law_751 : decode code 751 = .ok (.iaload, 1) := by decide +kernel
theorem d_law_752 : decode code 752 = .ok (.invokevirtual 83, 3) := by decide +kernel
theorem d_law_755 : decode code 755 = .ok (.aload_n 2, 1) := by decide +kernel
theorem d_law_756 : decode code 756 = .ok (.aload_n 0, 1) := by decide +kernel
theorem d_law_757 : decode code 757 = .ok (.iload_n 3, 1) := by decide +kernel
theorem d_law_758 : decode code 758 = .ok (.iconst 1, 1) := by decide +kernel
theorem d_law_759 : decode code 759 = .ok (.iadd, 1) := by decide +kernel
theorem d_law_760 : decode code 760 = .ok (.iaload, 1) := by decide +kernel
theorem d_law_761 : decode code 761 = .ok (.aload_n 0, 1) := by decide +kernel
theorem d_law_762 : decode code 762 = .ok (.iload_n 3, 1) := by decide +kernel
theorem d_law_763 : decode code 763 = .ok (.iconst 2, 1) := by decide +kernel
theorem d_law_764 : decode code 764 = .ok (.iadd, 1) := by decide +kernel
theorem d_law_765 : decode code 765 = .ok (.iaload, 1) := by decide +kernel
theorem d_law_766 : decode code 766 = .ok (.aload_n 0, 1) := by decide +kernel
theorem d_law_767 : decode code 767 = .ok (.iload_n 3, 1) := by decide +kernel
theorem d_law_768 : decode code 768 = .ok (.iconst 3, 1) := by decide +kernel
theorem d_law_769 : decode code 769 = .ok (.iadd, 1) := by decide +kernel
theorem d_law_770 : decode code 770 = .ok (.iaload, 1) := by decide +kernel
theorem d_law_771 : decode code 771 = .ok (.aload_n 0, 1) := by decide +kernel
theorem d_law_772 : decode code 772 = .ok (.iload_n 3, 1) := by decide +kernel
theorem d_law_773 : decode code 773 = .ok (.iconst 4, 1) := by decide +kernel
theorem d_law_774 : decode code 774 = .ok (.iadd, 1) := by decide +kernel
theorem d_law_775 : decode code 775 = .ok (.iaload, 1) := by decide +kernel
theorem d_law_776 : decode code 776 = .ok (.aload_n 0, 1) := by decide +kernel
theorem d_law_777 : decode code 777 = .ok (.iload_n 3, 1) := by decide +kernel
theorem d_law_778 : decode code 778 = .ok (.iconst 5, 1) := by decide +kernel
theorem d_law_779 : decode code 779 = .ok (.iadd, 1) := by decide +kernel
theorem d_law_780 : decode code 780 = .ok (.iaload, 1) := by decide +kernel
theorem d_law_781 : decode code 781 = .ok (.invokevirtual 86, 3) := by decide +kernel
theorem d_law_784 : decode code 784 = .ok (.if_icmp .eq 401, 3) := by decide +kernel
theorem d_law_787 : decode code 787 = .ok (.iconst 0, 1) := by decide +kernel
theorem d_law_788 : decode code 788 = .ok (.ireturn, 1) := by decide +kernel
theorem d_law_789 : decode code 789 = .ok (.aload_n 1, 1) := by decide +kernel
theorem d_law_790 : decode code 790 = .ok (.aload_n 0, 1) := by decide +kernel
theorem d_law_791 : decode code 791 = .ok (.iload_n 3, 1) := by decide +kernel
theorem d_law_792 : decode code 792 = .ok (.iconst 1, 1) := by decide +kernel
theorem d_law_793 : decode code 793 = .ok (.iadd, 1) := by decide +kernel
theorem d_law_794 : decode code 794 = .ok (.iaload, 1) := by decide +kernel
theorem d_law_795 : decode code 795 = .ok (.aload_n 0, 1) := by decide +kernel
theorem d_law_796 : decode code 796 = .ok (.iload_n 3, 1) := by decide +kernel
theorem d_law_797 : decode code 797 = .ok (.iconst 2, 1) := by decide +kernel
theorem d_law_798 : decode code 798 = .ok (.iadd, 1) := by decide +kernel
theorem d_law_799 : decode code 799 = .ok (.iaload, 1) := by decide +kernel
theorem d_law_800 : decode code 800 = .ok (.invokevirtual 87, 3) := by decide +kernel
theorem d_law_803 : decode code 803 = .ok (.aload_n 2, 1) := by decide +kernel
theorem d_law_804 : decode code 804 = .ok (.aload_n 0, 1) := by decide +kernel
theorem d_law_805 : decode code 805 = .ok (.iload_n 3, 1) := by decide +kernel
theorem d_law_806 : decode code 806 = .ok (.iconst 1, 1) := by decide +kernel
theorem d_law_807 : decode code 807 = .ok (.iadd, 1) := by decide +kernel
theorem d_law_808 : decode code 808 = .ok (.iaload, 1) := by decide +kernel
theorem d_law_809 : decode code 809 = .ok (.aload_n 0, 1) := by decide +kernel
theorem d_law_810 : decode code 810 = .ok (.iload_n 3, 1) := by decide +kernel
theorem d_law_811 : decode code 811 = .ok (.iconst 2, 1) := by decide +kernel
theorem d_law_812 : decode code 812 = .ok (.iadd, 1) := by decide +kernel
theorem d_law_813 : decode code 813 = .ok (.iaload, 1) := by decide +kernel
theorem d_law_814 : decode code 814 = .ok (.invokevirtual 90, 3) := by decide +kernel
theorem d_law_817 : decode code 817 = .ok (.if_icmp .eq 368, 3) := by decide +kernel
theorem d_law_820 : decode code 820 = .ok (.iconst 0, 1) := by decide +kernel
theorem d_law_821 : decode code 821 = .ok (.ireturn, 1) := by decide +kernel
theorem d_law_822 : decode code 822 = .ok (.aload_n 1, 1) := by decide +kernel
theorem d_law_823 : decode code 823 = .ok (.aload_n 0, 1) := by decide +kernel
theorem d_law_824 : decode code 824 = .ok (.iload_n 3, 1) := by decide +kernel
theorem d_law_825 : decode code 825 = .ok (.iconst 1, 1) := by decide +kernel
theorem d_law_826 : decode code 826 = .ok (.iadd, 1) := by decide +kernel
theorem d_law_827 : decode code 827 = .ok (.iaload, 1) := by decide +kernel
theorem d_law_828 : decode code 828 = .ok (.aload_n 0, 1) := by decide +kernel
theorem d_law_829 : decode code 829 = .ok (.iload_n 3, 1) := by decide +kernel
theorem d_law_830 : decode code 830 = .ok (.iconst 2, 1) := by decide +kernel
theorem d_law_831 : decode code 831 = .ok (.iadd, 1) := by decide +kernel
theorem d_law_832 : decode code 832 = .ok (.iaload, 1) := by decide +kernel
theorem d_law_833 : decode code 833 = .ok (.invokevirtual 91, 3) := by decide +kernel
theorem d_law_836 : decode code 836 = .ok (.aload_n 2, 1) := by decide +kernel
theorem d_law_837 : decode code 837 = .ok (.aload_n 0, 1) := by decide +kernel
theorem d_law_838 : decode code 838 = .ok (.iload_n 3, 1) := by decide +kernel
theorem d_law_839 : decode code 839 = .ok (.iconst 1, 1) := by decide +kernel
theorem d_law_840 : decode code 840 = .ok (.iadd, 1) := by decide +kernel
theorem d_law_841 : decode code 841 = .ok (.iaload, 1) := by decide +kernel
theorem d_law_842 : decode code 842 = .ok (.aload_n 0, 1) := by decide +kernel
theorem d_law_843 : decode code 843 = .ok (.iload_n 3, 1) := by decide +kernel
theorem d_law_844 : decode code 844 = .ok (.iconst 2, 1) := by decide +kernel
theorem d_law_845 : decode code 845 = .ok (.iadd, 1) := by decide +kernel
theorem d_law_846 : decode code 846 = .ok (.iaload, 1) := by decide +kernel
theorem d_law_847 : decode code 847 = .ok (.invokevirtual 94, 3) := by decide +kernel
theorem d_law_850 : decode code 850 = .ok (.if_icmp .eq 335, 3) := by decide +kernel
theorem d_law_853 : decode code 853 = .ok (.iconst 0, 1) := by decide +kernel
theorem d_law_854 : decode code 854 = .ok (.ireturn, 1) := by decide +kernel
theorem d_law_855 : decode code 855 = .ok (.aload_n 1, 1) := by decide +kernel
theorem d_law_856 : decode code 856 = .ok (.aload_n 0, 1) := by decide +kernel
theorem d_law_857 : decode code 857 = .ok (.iload_n 3, 1) := by decide +kernel
theorem d_law_858 : decode code 858 = .ok (.iconst 1, 1) := by decide +kernel
theorem d_law_859 : decode code 859 = .ok (.iadd, 1) := by decide +kernel
theorem d_law_860 : decode code 860 = .ok (.iaload, 1) := by decide +kernel
theorem d_law_861 : decode code 861 = .ok (.aload_n 0, 1) := by decide +kernel
theorem d_law_862 : decode code 862 = .ok (.iload_n 3, 1) := by decide +kernel
theorem d_law_863 : decode code 863 = .ok (.iconst 2, 1) := by decide +kernel
theorem d_law_864 : decode code 864 = .ok (.iadd, 1) := by decide +kernel
theorem d_law_865 : decode code 865 = .ok (.iaload, 1) := by decide +kernel
theorem d_law_866 : decode code 866 = .ok (.invokevirtual 95, 3) := by decide +kernel
theorem d_law_869 : decode code 869 = .ok (.aload_n 2, 1) := by decide +kernel
theorem d_law_870 : decode code 870 = .ok (.aload_n 0, 1) := by decide +kernel
theorem d_law_871 : decode code 871 = .ok (.iload_n 3, 1) := by decide +kernel
theorem d_law_872 : decode code 872 = .ok (.iconst 1, 1) := by decide +kernel
theorem d_law_873 : decode code 873 = .ok (.iadd, 1) := by decide +kernel
theorem d_law_874 : decode code 874 = .ok (.iaload, 1) := by decide +kernel
theorem d_law_875 : decode code 875 = .ok (.aload_n 0, 1) := by decide +kernel
theorem d_law_876 : decode code 876 = .ok (.iload_n 3, 1) := by decide +kernel
theorem d_law_877 : decode code 877 = .ok (.iconst 2, 1) := by decide +kernel
theorem d_law_878 : decode code 878 = .ok (.iadd, 1) := by decide +kernel
theorem d_law_879 : decode code 879 = .ok (.iaload, 1) := by decide +kernel
theorem d_law_880 : decode code 880 = .ok (.invokevirtual 98, 3) := by decide +kernel
theorem d_law_883 : decode code 883 = .ok (.if_icmp .eq 302, 3) := by decide +kernel
theorem d_law_886 : decode code 886 = .ok (.iconst 0, 1) := by decide +kernel
theorem d_law_887 : decode code 887 = .ok (.ireturn, 1) := by decide +kernel
theorem d_law_888 : decode code 888 = .ok (.aload_n 1, 1) := by decide +kernel
theorem d_law_889 : decode code 889 = .ok (.aload_n 0, 1) := by decide +kernel
theorem d_law_890 : decode code 890 = .ok (.iload_n 3, 1) := by decide +kernel
theorem d_law_891 : decode code 891 = .ok (.iconst 1, 1) := by decide +kernel
theorem d_law_892 : decode code 892 = .ok (.iadd, 1) := by decide +kernel
theorem d_law_893 : decode code 893 = .ok (.iaload, 1) := by decide +kernel
theorem d_law_894 : decode code 894 = .ok (.aload_n 0, 1) := by decide +kernel
theorem d_law_895 : decode code 895 = .ok (.iload_n 3, 1) := by decide +kernel
theorem d_law_896 : decode code 896 = .ok (.iconst 2, 1) := by decide +kernel
theorem d_law_897 : decode code 897 = .ok (.iadd, 1) := by decide +kernel
theorem d_law_898 : decode code 898 = .ok (.iaload, 1) := by decide +kernel
theorem d_law_899 : decode code 899 = .ok (.aload_n 0, 1) := by decide +kernel
theorem d_law_900 : decode code 900 = .ok (.iload_n 3, 1) := by decide +kernel
theorem d_law_901 : decode code 901 = .ok (.iconst 3, 1) := by decide +kernel
theorem d_law_902 : decode code 902 = .ok (.iadd, 1) := by decide +kernel
theorem d_law_903 : decode code 903 = .ok (.iaload, 1) := by decide +kernel
theorem d_law_904 : decode code 904 = .ok (.aload_n 0, 1) := by decide +kernel
theorem d_law_905 : decode code 905 = .ok (.iload_n 3, 1) := by decide +kernel
theorem d_law_906 : decode code 906 = .ok (.iconst 4, 1) := by decide +kernel
theorem d_law_907 : decode code 907 = .ok (.iadd, 1) := by decide +kernel
theorem d_law_908 : decode code 908 = .ok (.iaload, 1) := by decide +kernel
theorem d_law_909 : decode code 909 = .ok (.invokevirtual 99, 3) := by decide +kernel
theorem d_law_912 : decode code 912 = .ok (.aload_n 2, 1) := by decide +kernel
theorem d_law_913 : decode code 913 = .ok (.aload_n 0, 1) := by decide +kernel
theorem d_law_914 : decode code 914 = .ok (.iload_n 3, 1) := by decide +kernel
theorem d_law_915 : decode code 915 = .ok (.iconst 1, 1) := by decide +kernel
theorem d_law_916 : decode code 916 = .ok (.iadd, 1) := by decide +kernel
theorem d_law_917 : decode code 917 = .ok (.iaload, 1) := by decide +kernel
theorem d_law_918 : decode code 918 = .ok (.aload_n 0, 1) := by decide +kernel
theorem d_law_919 : decode code 919 = .ok (.iload_n 3, 1) := by decide +kernel
theorem d_law_920 : decode code 920 = .ok (.iconst 2, 1) := by decide +kernel
theorem d_law_921 : decode code 921 = .ok (.iadd, 1) := by decide +kernel
theorem d_law_922 : decode code 922 = .ok (.iaload, 1) := by decide +kernel
theorem d_law_923 : decode code 923 = .ok (.aload_n 0, 1) := by decide +kernel
theorem d_law_924 : decode code 924 = .ok (.iload_n 3, 1) := by decide +kernel
theorem d_law_925 : decode code 925 = .ok (.iconst 3, 1) := by decide +kernel
theorem d_law_926 : decode code 926 = .ok (.iadd, 1) := by decide +kernel
theorem d_law_927 : decode code 927 = .ok (.iaload, 1) := by decide +kernel
theorem d_law_928 : decode code 928 = .ok (.aload_n 0, 1) := by decide +kernel
theorem d_law_929 : decode code 929 = .ok (.iload_n 3, 1) := by decide +kernel
theorem d_law_930 : decode code 930 = .ok (.iconst 4, 1) := by decide +kernel
theorem d_law_931 : decode code 931 = .ok (.iadd, 1) := by decide +kernel
theorem d_law_932 : decode code 932 = .ok (.iaload, 1) := by decide +kernel
theorem d_law_933 : decode code 933 = .ok (.invokevirtual 102, 3) := by decide +kernel
theorem d_law_936 : decode code 936 = .ok (.if_icmp .eq 249, 3) := by decide +kernel
theorem d_law_939 : decode code 939 = .ok (.iconst 0, 1) := by decide +kernel
theorem d_law_940 : decode code 940 = .ok (.ireturn, 1) := by decide +kernel
theorem d_law_941 : decode code 941 = .ok (.aload_n 1, 1) := by decide +kernel
theorem d_law_942 : decode code 942 = .ok (.aload_n 0, 1) := by decide +kernel
theorem d_law_943 : decode code 943 = .ok (.iload_n 3, 1) := by decide +kernel
theorem d_law_944 : decode code 944 = .ok (.iconst 1, 1) := by decide +kernel
theorem d_law_945 : decode code 945 = .ok (.iadd, 1) := by decide +kernel
theorem d_law_946 : decode code 946 = .ok (.iaload, 1) := by decide +kernel
theorem d_law_947 : decode code 947 = .ok (.aload_n 0, 1) := by decide +kernel
theorem d_law_948 : decode code 948 = .ok (.iload_n 3, 1) := by decide +kernel
theorem d_law_949 : decode code 949 = .ok (.iconst 2, 1) := by decide +kernel
theorem d_law_950 : decode code 950 = .ok (.iadd, 1) := by decide +kernel
theorem d_law_951 : decode code 951 = .ok (.iaload, 1) := by decide +kernel
theorem d_law_952 : decode code 952 = .ok (.invokevirtual 103, 3) := by decide +kernel
theorem d_law_955 : decode code 955 = .ok (.aload_n 2, 1) := by decide +kernel
theorem d_law_956 : decode code 956 = .ok (.aload_n 0, 1) := by decide +kernel
theorem d_law_957 : decode code 957 = .ok (.iload_n 3, 1) := by decide +kernel
theorem d_law_958 : decode code 958 = .ok (.iconst 1, 1) := by decide +kernel
theorem d_law_959 : decode code 959 = .ok (.iadd, 1) := by decide +kernel
theorem d_law_960 : decode code 960 = .ok (.iaload, 1) := by decide +kernel
theorem d_law_961 : decode code 961 = .ok (.aload_n 0, 1) := by decide +kernel
theorem d_law_962 : decode code 962 = .ok (.iload_n 3, 1) := by decide +kernel
theorem d_law_963 : decode code 963 = .ok (.iconst 2, 1) := by decide +kernel
theorem d_law_964 : decode code 964 = .ok (.iadd, 1) := by decide +kernel
theorem d_law_965 : decode code 965 = .ok (.iaload, 1) := by decide +kernel
theorem d_law_966 : decode code 966 = .ok (.invokevirtual 106, 3) := by decide +kernel
theorem d_law_969 : decode code 969 = .ok (.if_icmp .eq 216, 3) := by decide +kernel
theorem d_law_972 : decode code 972 = .ok (.iconst 0, 1) := by decide +kernel
theorem d_law_973 : decode code 973 = .ok (.ireturn, 1) := by decide +kernel
theorem d_law_974 : decode code 974 = .ok (.aload_n 1, 1) := by decide +kernel
theorem d_law_975 : decode code 975 = .ok (.aload_n 0, 1) := by decide +kernel
theorem d_law_976 : decode code 976 = .ok (.iload_n 3, 1) := by decide +kernel
theorem d_law_977 : decode code 977 = .ok (.iconst 1, 1) := by decide +kernel
theorem d_law_978 : decode code 978 = .ok (.iadd, 1) := by decide +kernel
theorem d_law_979 : decode code 979 = .ok (.iaload, 1) := by decide +kernel
theorem d_law_980 : decode code 980 = .ok (.aload_n 0, 1) := by decide +kernel
theorem d_law_981 : decode code 981 = .ok (.iload_n 3, 1) := by decide +kernel
theorem d_law_982 : decode code 982 = .ok (.iconst 2, 1) := by decide +kernel
theorem d_law_983 : decode code 983 = .ok (.iadd, 1) := by decide +kernel
theorem d_law_984 : decode code 984 = .ok (.iaload, 1) := by decide +kernel
theorem d_law_985 : decode code 985 = .ok (.invokevirtual 107, 3) := by decide +kernel
theorem d_law_988 : decode code 988 = .ok (.aload_n 2, 1) := by decide +kernel
theorem d_law_989 : decode code 989 = .ok (.aload_n 0, 1) := by decide +kernel
theorem d_law_990 : decode code 990 = .ok (.iload_n 3, 1) := by decide +kernel
theorem d_law_991 : decode code 991 = .ok (.iconst 1, 1) := by decide +kernel
theorem d_law_992 : decode code 992 = .ok (.iadd, 1) := by decide +kernel
theorem d_law_993 : decode code 993 = .ok (.iaload, 1) := by decide +kernel
theorem d_law_994 : decode code 994 = .ok (.aload_n 0, 1) := by decide +kernel
theorem d_law_995 : decode code 995 = .ok (.iload_n 3, 1) := by decide +kernel
theorem d_law_996 : decode code 996 = .ok (.iconst 2, 1) := by decide +kernel
theorem d_law_997 : decode code 997 = .ok (.iadd, 1) := by decide +kernel
theorem d_law_998 : decode code 998 = .ok (.iaload, 1) := by decide +kernel
theorem d_law_999 : decode code 999 = .ok (.invokevirtual 110, 3) := by decide +kernel
theorem d_law_1002 : decode code 1002 = .ok (.if_icmp .eq 183, 3) := by decide +kernel
theorem d_law_1005 : decode code 1005 = .ok (.iconst 0, 1) := by decide +kernel
theorem d_law_1006 : decode code 1006 = .ok (.ireturn, 1) := by decide +kernel
theorem d_law_1007 : decode code 1007 = .ok (.aload_n 1, 1) := by decide +kernel
theorem d_law_1008 : decode code 1008 = .ok (.aload_n 0, 1) := by decide +kernel
theorem d_law_1009 : decode code 1009 = .ok (.iload_n 3, 1) := by decide +kernel
theorem d_law_1010 : decode code 1010 = .ok (.iconst 1, 1) := by decide +kernel
theorem d_law_1011 : decode code 1011 = .ok (.iadd, 1) := by decide +kernel
theorem d_law_1012 : decode code 1012 = .ok (.iaload, 1) := by decide +kernel
theorem d_law_1013 : decode code 1013 = .ok (.aload_n 0, 1) := by decide +kernel
theorem d_law_1014 : decode code 1014 = .ok (.iload_n 3, 1) := by decide +kernel
theorem d_law_1015 : decode code 1015 = .ok (.iconst 2, 1) := by decide +kernel
theorem d_law_1016 : decode code 1016 = .ok (.iadd, 1) := by decide +kernel
theorem d_law_1017 : decode code 1017 = .ok (.iaload, 1) := by decide +kernel
theorem d_law_1018 : decode code 1018 = .ok (.aload_n 0, 1) := by decide +kernel
theorem d_law_1019 : decode code 1019 = .ok (.iload_n 3, 1) := by decide +kernel
theorem d_law_1020 : decode code 1020 = .ok (.iconst 3, 1) := by decide +kernel
theorem d_law_1021 : decode code 1021 = .ok (.iadd, 1) := by decide +kernel
theorem d_law_1022 : decode code 1022 = .ok (.iaload, 1) := by decide +kernel
theorem d_law_1023 : decode code 1023 = .ok (.ifCond .eq 7, 3) := by decide +kernel
theorem d_law_1026 : decode code 1026 = .ok (.iconst 1, 1) := by decide +kernel
theorem d_law_1027 : decode code 1027 = .ok (.goto 4, 3) := by decide +kernel
theorem d_law_1030 : decode code 1030 = .ok (.iconst 0, 1) := by decide +kernel
theorem d_law_1031 : decode code 1031 = .ok (.invokevirtual 111, 3) := by decide +kernel
theorem d_law_1034 : decode code 1034 = .ok (.aload_n 2, 1) := by decide +kernel
theorem d_law_1035 : decode code 1035 = .ok (.aload_n 0, 1) := by decide +kernel
theorem d_law_1036 : decode code 1036 = .ok (.iload_n 3, 1) := by decide +kernel
theorem d_law_1037 : decode code 1037 = .ok (.iconst 1, 1) := by decide +kernel
theorem d_law_1038 : decode code 1038 = .ok (.iadd, 1) := by decide +kernel
theorem d_law_1039 : decode code 1039 = .ok (.iaload, 1) := by decide +kernel
theorem d_law_1040 : decode code 1040 = .ok (.aload_n 0, 1) := by decide +kernel
theorem d_law_1041 : decode code 1041 = .ok (.iload_n 3, 1) := by decide +kernel
theorem d_law_1042 : decode code 1042 = .ok (.iconst 2, 1) := by decide +kernel
theorem d_law_1043 : decode code 1043 = .ok (.iadd, 1) := by decide +kernel
theorem d_law_1044 : decode code 1044 = .ok (.iaload, 1) := by decide +kernel
theorem d_law_1045 : decode code 1045 = .ok (.aload_n 0, 1) := by decide +kernel
theorem d_law_1046 : decode code 1046 = .ok (.iload_n 3, 1) := by decide +kernel
theorem d_law_1047 : decode code 1047 = .ok (.iconst 3, 1) := by decide +kernel
theorem d_law_1048 : decode code 1048 = .ok (.iadd, 1) := by decide +kernel
theorem d_law_1049 : decode code 1049 = .ok (.iaload, 1) := by decide +kernel
theorem d_law_1050 : decode code 1050 = .ok (.ifCond .eq 7, 3) := by decide +kernel
theorem d_law_1053 : decode code 1053 = .ok (.iconst 1, 1) := by decide +kernel
theorem d_law_1054 : decode code 1054 = .ok (.goto 4, 3) := by decide +kernel
theorem d_law_1057 : decode code 1057 = .ok (.iconst 0, 1) := by decide +kernel
theorem d_law_1058 : decode code 1058 = .ok (.invokevirtual 115, 3) := by decide +kernel
theorem d_law_1061 : decode code 1061 = .ok (.if_icmp .eq 124, 3) := by decide +kernel
theorem d_law_1064 : decode code 1064 = .ok (.iconst 0, 1) := by decide +kernel
theorem d_law_1065 : decode code 1065 = .ok (.ireturn, 1) := by decide +kernel
theorem d_law_1066 : decode code 1066 = .ok (.aload_n 1, 1) := by decide +kernel
theorem d_law_1067 : decode code 1067 = .ok (.invokevirtual 116, 3) := by decide +kernel
theorem d_law_1070 : decode code 1070 = .ok (.aload_n 2, 1) := by decide +kernel
theorem d_law_1071 : decode code 1071 = .ok (.invokevirtual 119, 3) := by decide +kernel
theorem d_law_1074 : decode code 1074 = .ok (.if_icmp .eq 111, 3) := by decide +kernel
theorem d_law_1077 : decode code 1077 = .ok (.iconst 0, 1) := by decide +kernel
theorem d_law_1078 : decode code 1078 = .ok (.ireturn, 1) := by decide +kernel
theorem d_law_1079 : decode code 1079 = .ok (.aload_n 1, 1) := by decide +kernel
theorem d_law_1080 : decode code 1080 = .ok (.aload_n 0, 1) := by decide +kernel
theorem d_law_1081 : decode code 1081 = .ok (.iload_n 3, 1) := by decide +kernel
theorem d_law_1082 : decode code 1082 = .ok (.iconst 1, 1) := by decide +kernel
theorem d_law_1083 : decode code 1083 = .ok (.iadd, 1) := by decide +kernel
theorem d_law_1084 : decode code 1084 = .ok (.iaload, 1) := by decide +kernel
theorem d_law_1085 : decode code 1085 = .ok (.aload_n 0, 1) := by decide +kernel
theorem d_law_1086 : decode code 1086 = .ok (.iload_n 3, 1) := by decide +kernel
theorem d_law_1087 : decode code 1087 = .ok (.iconst 2, 1) := by decide +kernel
theorem d_law_1088 : decode code 1088 = .ok (.iadd, 1) := by decide +kernel
theorem d_law_1089 : decode code 1089 = .ok (.iaload, 1) := by decide +kernel
theorem d_law_1090 : decode code 1090 = .ok (.aload_n 0, 1) := by decide +kernel
theorem d_law_1091 : decode code 1091 = .ok (.iload_n 3, 1) := by decide +kernel
theorem d_law_1092 : decode code 1092 = .ok (.iconst 3, 1) := by decide +kernel
theorem d_law_1093 : decode code 1093 = .ok (.iadd, 1) := by decide +kernel
theorem d_law_1094 : decode code 1094 = .ok (.iaload, 1) := by decide +kernel
theorem d_law_1095 : decode code 1095 = .ok (.invokevirtual 120, 3) := by decide +kernel
theorem d_law_1098 : decode code 1098 = .ok (.aload_n 2, 1) := by decide +kernel
theorem d_law_1099 : decode code 1099 = .ok (.aload_n 0, 1) := by decide +kernel
theorem d_law_1100 : decode code 1100 = .ok (.iload_n 3, 1) := by decide +kernel
theorem d_law_1101 : decode code 1101 = .ok (.iconst 1, 1) := by decide +kernel
theorem d_law_1102 : decode code 1102 = .ok (.iadd, 1) := by decide +kernel
theorem d_law_1103 : decode code 1103 = .ok (.iaload, 1) := by decide +kernel
theorem d_law_1104 : decode code 1104 = .ok (.aload_n 0, 1) := by decide +kernel
theorem d_law_1105 : decode code 1105 = .ok (.iload_n 3, 1) := by decide +kernel
theorem d_law_1106 : decode code 1106 = .ok (.iconst 2, 1) := by decide +kernel
theorem d_law_1107 : decode code 1107 = .ok (.iadd, 1) := by decide +kernel
theorem d_law_1108 : decode code 1108 = .ok (.iaload, 1) := by decide +kernel
theorem d_law_1109 : decode code 1109 = .ok (.aload_n 0, 1) := by decide +kernel
theorem d_law_1110 : decode code 1110 = .ok (.iload_n 3, 1) := by decide +kernel
theorem d_law_1111 : decode code 1111 = .ok (.iconst 3, 1) := by decide +kernel
theorem d_law_1112 : decode code 1112 = .ok (.iadd, 1) := by decide +kernel
theorem d_law_1113 : decode code 1113 = .ok (.iaload, 1) := by decide +kernel
theorem d_law_1114 : decode code 1114 = .ok (.invokevirtual 123, 3) := by decide +kernel
theorem d_law_1117 : decode code 1117 = .ok (.if_icmp .eq 68, 3) := by decide +kernel
theorem d_law_1120 : decode code 1120 = .ok (.iconst 0, 1) := by decide +kernel
theorem d_law_1121 : decode code 1121 = .ok (.ireturn, 1) := by decide +kernel
theorem d_law_1122 : decode code 1122 = .ok (.aload_n 1, 1) := by decide +kernel
theorem d_law_1123 : decode code 1123 = .ok (.invokevirtual 124, 3) := by decide +kernel
theorem d_law_1126 : decode code 1126 = .ok (.aload_n 2, 1) := by decide +kernel
theorem d_law_1127 : decode code 1127 = .ok (.invokevirtual 127, 3) := by decide +kernel
theorem d_law_1130 : decode code 1130 = .ok (.if_icmp .eq 55, 3) := by decide +kernel
theorem d_law_1133 : decode code 1133 = .ok (.iconst 0, 1) := by decide +kernel
theorem d_law_1134 : decode code 1134 = .ok (.ireturn, 1) := by decide +kernel
theorem d_law_1135 : decode code 1135 = .ok (.aload_n 1, 1) := by decide +kernel
theorem d_law_1136 : decode code 1136 = .ok (.invokevirtual 128, 3) := by decide +kernel
theorem d_law_1139 : decode code 1139 = .ok (.aload_n 2, 1) := by decide +kernel
theorem d_law_1140 : decode code 1140 = .ok (.invokevirtual 131, 3) := by decide +kernel
theorem d_law_1143 : decode code 1143 = .ok (.if_icmp .eq 42, 3) := by decide +kernel
theorem d_law_1146 : decode code 1146 = .ok (.iconst 0, 1) := by decide +kernel
theorem d_law_1147 : decode code 1147 = .ok (.ireturn, 1) := by decide +kernel
theorem d_law_1148 : decode code 1148 = .ok (.aload_n 1, 1) := by decide +kernel
theorem d_law_1149 : decode code 1149 = .ok (.aload_n 0, 1) := by decide +kernel
theorem d_law_1150 : decode code 1150 = .ok (.iload_n 3, 1) := by decide +kernel
theorem d_law_1151 : decode code 1151 = .ok (.iconst 1, 1) := by decide +kernel
theorem d_law_1152 : decode code 1152 = .ok (.iadd, 1) := by decide +kernel
theorem d_law_1153 : decode code 1153 = .ok (.iaload, 1) := by decide +kernel
theorem d_law_1154 : decode code 1154 = .ok (.invokevirtual 132, 3) := by decide +kernel
theorem d_law_1157 : decode code 1157 = .ok (.aload_n 2, 1) := by decide +kernel
theorem d_law_1158 : decode code 1158 = .ok (.aload_n 0, 1) := by decide +kernel
theorem d_law_1159 : decode code 1159 = .ok (.iload_n 3, 1) := by decide +kernel
theorem d_law_1160 : decode code 1160 = .ok (.iconst 1, 1) := by decide +kernel
theorem d_law_1161 : decode code 1161 = .ok (.iadd, 1) := by decide +kernel
theorem d_law_1162 : decode code 1162 = .ok (.iaload, 1) := by decide +kernel
theorem d_law_1163 : decode code 1163 = .ok (.invokevirtual 135, 3) := by decide +kernel
theorem d_law_1166 : decode code 1166 = .ok (.if_icmp .eq 19, 3) := by decide +kernel
theorem d_law_1169 : decode code 1169 = .ok (.iconst 0, 1) := by decide +kernel
theorem d_law_1170 : decode code 1170 = .ok (.ireturn, 1) := by decide +kernel
theorem d_law_1171 : decode code 1171 = .ok (.aload_n 1, 1) := by decide +kernel
theorem d_law_1172 : decode code 1172 = .ok (.invokevirtual 136, 3) := by decide +kernel
theorem d_law_1175 : decode code 1175 = .ok (.aload_n 2, 1) := by decide +kernel
theorem d_law_1176 : decode code 1176 = .ok (.invokevirtual 140, 3) := by decide +kernel
theorem d_law_1179 : decode code 1179 = .ok (.lcmp, 1) := by decide +kernel
theorem d_law_1180 : decode code 1180 = .ok (.ifCond .eq 5, 3) := by decide +kernel
theorem d_law_1183 : decode code 1183 = .ok (.iconst 0, 1) := by decide +kernel
theorem d_law_1184 : decode code 1184 = .ok (.ireturn, 1) := by decide +kernel
theorem d_law_1185 : decode code 1185 = .ok (.iinc 3 6, 3) := by decide +kernel
theorem d_law_1188 : decode code 1188 = .ok (.goto (-1170), 3) := by decide +kernel
theorem d_law_1191 : decode code 1191 = .ok (.iconst 1, 1) := by decide +kernel
theorem d_law_1192 : decode code 1192 = .ok (.ireturn, 1) := by decide +kernel
end
section
/-! ids of ports and waves -/
def tt_wv (o j : Nat) : Nat := 25 + 3 * (o - 9) + j
def tt_po (o j : Nat) : Nat := 9 + 4 * (o - 3) + j
theorem tt_po_rng {o : Nat} (h : tt_ci o = 1) : 9 ≤ o ∧ o < 17 := by
  have h1 : o < 76 := tt_ci_lt (by omega)
  have key : ∀ o : Fin 76, tt_ci o.val = 1 → 9 ≤ o.val ∧ o.val < 17 := by decide +kernel
  exact key ⟨o, h1⟩ h
theorem tt_se_rng {o : Nat} (h : tt_ci o = 2) : o = 3 ∨ o = 4 := by
  have h1 : o < 76 := tt_ci_lt (by omega)
  have key : ∀ o : Fin 76, tt_ci o.val = 2 → o.val = 3 ∨ o.val = 4 := by decide +kernel
  exact key ⟨o, h1⟩ h
theorem tt_ci_po {o : Nat} (h : 9 ≤ o) (h2 : o < 17) : tt_ci o = 1 := by
  have key : ∀ o : Fin 17, 9 ≤ o.val → tt_ci o.val = 1 := by decide +kernel
  exact key ⟨o, h2⟩ h
theorem tt_ci_wv {o : Nat} (h : 25 ≤ o) (h2 : o < 49) : tt_ci o = 3 := by
  have key : ∀ o : Fin 49, 25 ≤ o.val → tt_ci o.val = 3 := by decide +kernel
  exact key ⟨o, h2⟩ h
theorem tt_R_po {o : Nat} (h : tt_ci o = 1) : tt_R o 5 = o + 8 := by
  have := tt_po_rng h
  rw [tt_R, if_neg (by omega), if_pos (by omega)]
theorem tt_R_se {o : Nat} (h : tt_ci o = 2) : tt_R o 0 = o + 2 := by
  rcases tt_se_rng h with rfl | rfl <;> rfl
theorem tt_ar_po {o : Nat} (h : tt_ci o = 1) : tt_ci (o + 8) = 9 ∧ o + 8 < 76 ∧ tt_at (o + 8) = 3 ∧ tt_len (o + 8) = 3 := by
  have h1 := tt_po_rng h
  have key : ∀ o : Fin 17, 9 ≤ o.val → tt_ci (o.val + 8) = 9 ∧ o.val + 8 < 76 ∧ tt_at (o.val + 8) = 3 ∧ tt_len (o.val + 8) = 3 := by decide +kernel
  exact key ⟨o, h1.2⟩ h1.1
theorem tt_ar_se {o : Nat} (h : tt_ci o = 2) : tt_ci (o + 2) = 9 ∧ o + 2 < 76 ∧ tt_at (o + 2) = 2 ∧ tt_len (o + 2) = 4 := by
  rcases tt_se_rng h with rfl | rfl <;> exact ⟨rfl, by decide, rfl, rfl⟩
theorem tt_wv_RA {o j : Nat} (h : tt_ci o = 1) : tt_RA (o + 8) j = tt_wv o j := by
  have := tt_po_rng h
  rw [tt_RA, if_neg (by omega), if_neg (by omega), tt_wv]
  omega
theorem tt_po_RA {o j : Nat} (h : tt_ci o = 2) : tt_RA (o + 2) j = tt_po o j := by
  rcases tt_se_rng h with rfl | rfl
  · rw [tt_RA, if_pos rfl, tt_po]
  · rw [tt_RA, if_neg (by omega), if_pos rfl, tt_po]
theorem tt_inN {i : Int32} {n : Nat} (h : vp_in i n) : i.toNatClampNeg < n := by
  unfold vp_in at h
  omega
theorem tt_wv_ci {o : Nat} {i : Int32} (h : tt_ci o = 1) (hb : vp_in i 3) : tt_ci (tt_wv o i.toNatClampNeg) = 3 := by
  have h1 := tt_po_rng h
  have h2 := tt_inN hb
  exact tt_ci_wv (by unfold tt_wv; omega) (by unfold tt_wv; omega)
theorem tt_po_ci {o : Nat} {i : Int32} (h : tt_ci o = 2) (hb : vp_in i 4) : tt_ci (tt_po o i.toNatClampNeg) = 1 := by
  have h2 := tt_inN hb
  rcases tt_se_rng h with rfl | rfl
  · exact tt_ci_po (by unfold tt_po; omega) (by unfold tt_po; omega)
  · exact tt_ci_po (by unfold tt_po; omega) (by unfold tt_po; omega)
theorem tt_ci_5 {i : Int32} (hb : vp_in i 4) : tt_ci (9 + i.toNatClampNeg) = 1 := by
  have h2 := tt_inN hb
  exact tt_ci_po (by omega) (by omega)
theorem tt_ci_6 {i : Int32} (hb : vp_in i 4) : tt_ci (13 + i.toNatClampNeg) = 1 := by
  have h2 := tt_inN hb
  exact tt_ci_po (by omega) (by omega)
/-! numbers -/
theorem tt_lt {a b : Int32} : a < b ↔ a.toInt < b.toInt := Int32.lt_iff_toInt_lt
theorem tt_le {a b : Int32} : a ≤ b ↔ a.toInt ≤ b.toInt := Int32.le_iff_toInt_le
theorem tt_eq {a b : Int32} : a = b ↔ a.toInt = b.toInt := Int32.toInt_inj.symm
theorem tt_rg (a : Int32) : -2147483648 ≤ a.toInt ∧ a.toInt ≤ 2147483647 := by
  have h1 := Int32.le_toInt a
  have h2 := Int32.toInt_lt a
  omega
theorem tt_add {a b : Int32} (h1 : -2147483648 ≤ a.toInt + b.toInt) (h2 : a.toInt + b.toInt ≤ 2147483647) : (a + b).toInt = a.toInt + b.toInt := by
  rw [Int32.toInt_add, Int.bmod_def]; omega
theorem tt_sub {a b : Int32} (h1 : -2147483648 ≤ a.toInt - b.toInt) (h2 : a.toInt - b.toInt ≤ 2147483647) : (a - b).toInt = a.toInt - b.toInt := by
  rw [Int32.toInt_sub, Int.bmod_def]; omega
theorem tt_mul {a b : Int32} (h1 : -2147483648 ≤ a.toInt * b.toInt) (h2 : a.toInt * b.toInt ≤ 2147483647) : (a * b).toInt = a.toInt * b.toInt := by
  rw [Int32.toInt_mul, Int.bmod_def]; omega
theorem tt_ti_nI {n : Nat} (h : n < 2147483648) : (nI n).toInt = (n : Int) := nI_toInt h
theorem tt_clamp {a : Int32} : a.toNatClampNeg = a.toInt.toNat := rfl
theorem tt_nIc {y : Int32} (h : 0 ≤ y.toInt) : nI y.toNatClampNeg = y := by
  rw [tt_eq, nI_toInt (by rw [tt_clamp]; have := tt_rg y; omega), tt_clamp]
  omega
theorem tt_end {y : Int32} {j : Nat} (h : 0 ≤ y.toInt) (hj : y.toNatClampNeg ≤ j) (hj2 : j < 2147483648) : y ≤ nI j := by
  rw [tt_le, nI_toInt hj2]; rw [tt_clamp] at hj; omega
theorem tt_stay {y : Int32} {j : Nat} (hj : j < y.toNatClampNeg) : ¬ y ≤ nI j := by
  have := tt_rg y
  rw [tt_clamp] at hj
  rw [tt_le, nI_toInt (by omega)]; omega
theorem tt_nb {v : Int32} (h : v = 0 ∨ v = 1) : narrow .boolean (.int v) = .int v := by
  rcases h with rfl | rfl <;> rfl
theorem tt_fb {v : Int32} (h : v = 0 ∨ v = 1) : fits .boolean (.int v) = true := by
  rcases h with rfl | rfl <;> rfl
theorem tt_bool {c : Prop} [Decidable c] {a b : Int32} (h1 : a = 0 ∨ a = 1) (h2 : b = 0 ∨ b = 1) : (if c then a else b) = 0 ∨ (if c then a else b) = 1 := by
  by_cases h : c
  · rw [if_pos h]; exact h1
  · rw [if_neg h]; exact h2
/-- the rest of a division is the rest -/
theorem tt_div {x d : Int32} (hd : 0 < d.toInt) : (x / d).toInt = x.toInt.tdiv d.toInt := by
  have h := tt_rg x
  rw [Int32.toInt_div]
  have h1 : -2147483648 ≤ x.toInt.tdiv d.toInt ∧ x.toInt.tdiv d.toInt ≤ 2147483647 := by
    rcases Int.le_total 0 x.toInt with q | q
    · have a1 := Int.tdiv_nonneg q (Int.le_of_lt hd)
      have a2 := Int.tdiv_le_self (b := d.toInt) q
      omega
    · have a1 := Int.tdiv_nonneg (a := -x.toInt) (b := d.toInt) (by omega) (Int.le_of_lt hd)
      have a2 := Int.tdiv_le_self (a := -x.toInt) (b := d.toInt) (by omega)
      rw [Int.neg_tdiv] at a1 a2
      omega
  rw [Int.bmod_def]; omega
theorem tt_rem {x d : Int32} (hd : 0 < d.toInt) : (x - x / d * d).toInt = x.toInt.tmod d.toInt := by
  have h := tt_rg x
  have hdr := tt_rg d
  have e := Int.tmod_def x.toInt d.toInt
  have h1 : -d.toInt < x.toInt.tmod d.toInt ∧ x.toInt.tmod d.toInt < d.toInt := by
    rcases Int.le_total 0 x.toInt with q | q
    · have a1 := Int.tmod_nonneg d.toInt q
      have a2 := Int.tmod_lt_of_pos x.toInt hd
      omega
    · have a1 := Int.tmod_nonneg d.toInt (a := -x.toInt) (by omega)
      have a2 := Int.tmod_lt_of_pos (-x.toInt) hd
      rw [Int.neg_tmod] at a1 a2
      omega
  have hs : 0 ≤ x.toInt → 0 ≤ x.toInt.tmod d.toInt := fun q => Int.tmod_nonneg d.toInt q
  have hs2 : x.toInt ≤ 0 → x.toInt.tmod d.toInt ≤ 0 := fun q => by
    have a1 := Int.tmod_nonneg d.toInt (a := -x.toInt) (by omega)
    rw [Int.neg_tmod] at a1
    omega
  have hb : -2147483648 ≤ d.toInt * x.toInt.tdiv d.toInt ∧ d.toInt * x.toInt.tdiv d.toInt ≤ 2147483647 := by
    rcases Int.le_total 0 x.toInt with q | q
    · have := hs q; omega
    · have := hs2 q; omega
  have hm : (x / d * d).toInt = d.toInt * x.toInt.tdiv d.toInt := by
    rw [tt_mul]
    · rw [tt_div hd, Int.mul_comm]
    · rw [tt_div hd, Int.mul_comm]; exact hb.1
    · rw [tt_div hd, Int.mul_comm]; exact hb.2
  rw [tt_sub]
  · rw [hm]; omega
  · rw [hm]; omega
  · rw [hm]; omega
theorem tt_remb {x d : Int32} (hd : 0 < d.toInt) : -d.toInt < (x - x / d * d).toInt ∧ (x - x / d * d).toInt < d.toInt := by
  rw [tt_rem hd]
  rcases Int.le_total 0 x.toInt with q | q
  · have a1 := Int.tmod_nonneg d.toInt q
    have a2 := Int.tmod_lt_of_pos x.toInt hd
    omega
  · have a1 := Int.tmod_nonneg d.toInt (a := -x.toInt) (by omega)
    have a2 := Int.tmod_lt_of_pos (-x.toInt) hd
    rw [Int.neg_tmod] at a1 a2
    omega
/-- (x % d + d) % d lies in 0 .. d-1 -/
theorem tt_wrap {x d : Int32} (hd : 0 < d.toInt) (hd2 : d.toInt ≤ 1000000000) : 0 ≤ ((x - x / d * d) + d - ((x - x / d * d) + d) / d * d).toInt ∧ ((x - x / d * d) + d - ((x - x / d * d) + d) / d * d).toInt < d.toInt := by
  have h1 := tt_remb (x := x) hd
  have h2 : ((x - x / d * d) + d).toInt = (x - x / d * d).toInt + d.toInt := tt_add (by omega) (by omega)
  have h3 := tt_remb (x := (x - x / d * d) + d) hd
  refine ⟨?_, h3.2⟩
  rw [tt_rem hd]
  exact Int.tmod_nonneg _ (by omega)
theorem tt_in {x : Int32} {n : Nat} (h1 : 0 ≤ x.toInt) (h2 : x.toInt < n) : vp_in x n := vp_in_iff.mpr ⟨h1, h2⟩
theorem tt_in_lt {x : Int32} {n : Nat} (h : vp_in x n) : 0 ≤ x.toInt ∧ x.toInt < n := vp_in_iff.mp h
theorem tt_cle {y : Int32} {n : Nat} (h : y.toInt ≤ n) : y.toNatClampNeg ≤ n := by
  rw [tt_clamp]; omega
theorem tt_ix3 {p w q : Int32} (hp : vp_in p 4) (hw : vp_in w 3) (hq : vp_in q 3) : vp_in (((9 * p) + (3 * w)) + q) 36 := by
  obtain ⟨a, ha, rfl⟩ := vp_in_of hp (by decide)
  obtain ⟨b, hb, rfl⟩ := vp_in_of hw (by decide)
  obtain ⟨c, hc, rfl⟩ := vp_in_of hq (by decide)
  have e : ((9 * nI a) + (3 * nI b)) + nI c = nI (9 * a + 3 * b + c) := by
    rw [← nI_add, ← nI_add, ← pk_mul, ← pk_mul]; rfl
  rw [e]
  exact vp_in_nI (by omega) (by omega)
theorem tt_ix16 {a : Int32} (ha : vp_in a 1024) : vp_in (a / 16) 65 ∧ vp_in (a / 16 + 1) 65 := by
  obtain ⟨x, hx, rfl⟩ := vp_in_of ha (by decide)
  have e : nI x / 16 = nI (x / 16) := pk_div (by omega) (by decide) (by decide)
  rw [e, nI_1]
  exact ⟨vp_in_nI (by omega) (by omega), vp_in_nI (by omega) (by omega)⟩
theorem tt_dayE {d : Int32} {j : Nat} (hd : vp_in d 10) (h : 144 ≤ j) (h2 : j < 100000) : 144 * (d + 1) ≤ (144 * d) + nI j := by
  obtain ⟨x, hx, rfl⟩ := vp_in_of hd (by decide)
  have e1 : (144 : Int32) * (nI x + 1) = nI (144 * (x + 1)) := by rw [nI_1, ← pk_mul]; rfl
  have e2 : (144 : Int32) * nI x + nI j = nI (144 * x + j) := by rw [← nI_add, ← pk_mul]; rfl
  rw [e1, e2]
  exact nI_le (by omega) (by omega)
theorem tt_dayS {d : Int32} {j : Nat} (hd : vp_in d 10) (h : j < 144) : ¬ 144 * (d + 1) ≤ (144 * d) + nI j := by
  obtain ⟨x, hx, rfl⟩ := vp_in_of hd (by decide)
  have e1 : (144 : Int32) * (nI x + 1) = nI (144 * (x + 1)) := by rw [nI_1, ← pk_mul]; rfl
  have e2 : (144 : Int32) * nI x + nI j = nI (144 * x + j) := by rw [← nI_add, ← pk_mul]; rfl
  rw [e1, e2]
  exact nI_ge (by omega) (by omega)
theorem tt_offE {d : Int32} {j : Nat} (hd : vp_in d 1440) (h : 144 ≤ j) (h2 : j < 100000) : d + 144 ≤ d + nI j := by
  obtain ⟨x, hx, rfl⟩ := vp_in_of hd (by decide)
  have e1 : nI x + (144 : Int32) = nI (x + 144) := by rw [← nI_add]; rfl
  rw [e1, nI_add]
  exact nI_le (by omega) (by omega)
theorem tt_offS {d : Int32} {j : Nat} (hd : vp_in d 1440) (h : j < 144) : ¬ d + 144 ≤ d + nI j := by
  obtain ⟨x, hx, rfl⟩ := vp_in_of hd (by decide)
  have e1 : nI x + (144 : Int32) = nI (x + 144) := by rw [← nI_add]; rfl
  rw [e1, nI_add]
  exact nI_ge (by omega) (by omega)
end
section
/-! java/lang/Math.floorDiv(II)I -/
def ma_floorDiv (a1 : Int32) (a2 : Int32) : Int32 := (if 0 ≤ (a1 ^^^ a2) then (a1 / a2) else (if ((a1 / a2) * a2) = a1 then (a1 / a2) else ((a1 / a2) - 1)))
set_option maxHeartbeats 4000000 in
set_option maxRecDepth 20000 in
theorem c_ma_floorDiv (G : tt_G) (st : tt_St) (a1 : Int32) (a2 : Int32) (hd : ¬ a2 = 0) : tt_C y_ma_floorDiv prog_10_method_47_code 3 (some .int) 0 0 G [.int a1, .int a2] st (some (.int (ma_floorDiv a1 a2))) st := by
  refine tt_enter (α := Int32) (mk := fun r => (some (.int r), st)) (T := (ma_floorDiv a1 a2)) (by decide +kernel) (Nat.le_of_ble_eq_true rfl) (fun κ hC hR => ?_)
  rw [ma_floorDiv]
  refine r_iload_n 0 hC d_ma_floorDiv_0 rfl ?_
  refine r_iload_n 1 hC d_ma_floorDiv_1 rfl ?_
  refine r_idiv hC d_ma_floorDiv_2 hd ?_
  refine r_istore_n [(2, .int (a1 / a2)), (0, .int a1), (1, .int a2)] hC d_ma_floorDiv_3 rfl (by decide) rfl ?_
  refine r_iload_n 1 hC d_ma_floorDiv_4 rfl ?_
  refine r_iload_n 2 hC d_ma_floorDiv_5 rfl ?_
  refine r_ixor hC d_ma_floorDiv_6 ?_
  refine r_if_ge (tgt := 21) hC d_ma_floorDiv_7 (by decide) (fun c_7 => ?_) (fun c_7 => ?_)
  ·
    refine r_iload_n 0 hC d_ma_floorDiv_21 rfl ?_
    exact r_iret hC hR d_ma_floorDiv_22 rfl rfl
  ·
    refine r_iload_n 0 hC d_ma_floorDiv_10 rfl ?_
    refine r_iload_n 2 hC d_ma_floorDiv_11 rfl ?_
    refine r_imul hC d_ma_floorDiv_12 ?_
    refine r_iload_n 1 hC d_ma_floorDiv_13 rfl ?_
    refine r_icmp_eq (tgt := 21) hC d_ma_floorDiv_14 (by decide) (fun c_14 => ?_) (fun c_14 => ?_)
    ·
      refine r_iload_n 0 hC d_ma_floorDiv_21 rfl ?_
      exact r_iret hC hR d_ma_floorDiv_22 rfl rfl
    ·
      refine r_iload_n 0 hC d_ma_floorDiv_17 rfl ?_
      refine r_iconst (v := 1) hC d_ma_floorDiv_18 (by decide) ?_
      refine r_isub hC d_ma_floorDiv_19 ?_
      exact r_iret hC hR d_ma_floorDiv_20 rfl rfl
/-! java/lang/Math.max(II)I -/
def ma_max (a1 : Int32) (a2 : Int32) : Int32 := (if a1 < a2 then a2 else a1)
set_option maxHeartbeats 4000000 in
set_option maxRecDepth 20000 in
theorem c_ma_max (G : tt_G) (st : tt_St) (a1 : Int32) (a2 : Int32)  : tt_C y_ma_max prog_10_method_65_code 2 (some .int) 0 0 G [.int a1, .int a2] st (some (.int (ma_max a1 a2))) st := by
  refine tt_enter (α := Int32) (mk := fun r => (some (.int r), st)) (T := (ma_max a1 a2)) (by decide +kernel) (Nat.le_of_ble_eq_true rfl) (fun κ hC hR => ?_)
  rw [ma_max]
  refine r_iload_n 0 hC d_ma_max_0 rfl ?_
  refine r_iload_n 1 hC d_ma_max_1 rfl ?_
  refine r_icmp_lt (tgt := 9) hC d_ma_max_2 (by decide) (fun c_2 => ?_) (fun c_2 => ?_)
  ·
    refine r_iload_n 1 hC d_ma_max_9 rfl ?_
    exact r_iret hC hR d_ma_max_10 rfl rfl
  ·
    refine r_iload_n 0 hC d_ma_max_5 rfl ?_
    refine r_goto (tgt := 10) hC d_ma_max_6 (by decide) ?_
    exact r_iret hC hR d_ma_max_10 rfl rfl
/-! java/lang/Math.min(II)I -/
def ma_min (a1 : Int32) (a2 : Int32) : Int32 := (if a2 < a1 then a2 else a1)
set_option maxHeartbeats 4000000 in
set_option maxRecDepth 20000 in
theorem c_ma_min (G : tt_G) (st : tt_St) (a1 : Int32) (a2 : Int32)  : tt_C y_ma_min prog_10_method_69_code 2 (some .int) 0 0 G [.int a1, .int a2] st (some (.int (ma_min a1 a2))) st := by
  refine tt_enter (α := Int32) (mk := fun r => (some (.int r), st)) (T := (ma_min a1 a2)) (by decide +kernel) (Nat.le_of_ble_eq_true rfl) (fun κ hC hR => ?_)
  rw [ma_min]
  refine r_iload_n 0 hC d_ma_min_0 rfl ?_
  refine r_iload_n 1 hC d_ma_min_1 rfl ?_
  refine r_icmp_gt (tgt := 9) hC d_ma_min_2 (by decide) (fun c_2 => ?_) (fun c_2 => ?_)
  ·
    refine r_iload_n 1 hC d_ma_min_9 rfl ?_
    exact r_iret hC hR d_ma_min_10 rfl rfl
  ·
    refine r_iload_n 0 hC d_ma_min_5 rfl ?_
    refine r_goto (tgt := 10) hC d_ma_min_6 (by decide) ?_
    exact r_iret hC hR d_ma_min_10 rfl rfl
/-! java/lang/Integer.compare(II)I -/
def in_compare (a1 : Int32) (a2 : Int32) : Int32 := (if a2 ≤ a1 then (if a1 = a2 then 0 else 1) else (-1))
set_option maxHeartbeats 4000000 in
set_option maxRecDepth 20000 in
theorem c_in_compare (G : tt_G) (st : tt_St) (a1 : Int32) (a2 : Int32)  : tt_C y_in_compare prog_9_method_40_code 2 (some .int) 0 0 G [.int a1, .int a2] st (some (.int (in_compare a1 a2))) st := by
  refine tt_enter (α := Int32) (mk := fun r => (some (.int r), st)) (T := (in_compare a1 a2)) (by decide +kernel) (Nat.le_of_ble_eq_true rfl) (fun κ hC hR => ?_)
  rw [in_compare]
  refine r_iload_n 0 hC d_in_compare_0 rfl ?_
  refine r_iload_n 1 hC d_in_compare_1 rfl ?_
  refine r_icmp_ge (tgt := 9) hC d_in_compare_2 (by decide) (fun c_2 => ?_) (fun c_2 => ?_)
  ·
    refine r_iload_n 0 hC d_in_compare_9 rfl ?_
    refine r_iload_n 1 hC d_in_compare_10 rfl ?_
    refine r_icmp_ne (tgt := 18) hC d_in_compare_11 (by decide) (fun c_11 => ?_) (fun c_11 => ?_)
    ·
      refine r_iconst (v := 1) hC d_in_compare_18 (by decide) ?_
      exact r_iret hC hR d_in_compare_19 rfl rfl
    ·
      refine r_iconst (v := 0) hC d_in_compare_14 (by decide) ?_
      refine r_goto (tgt := 19) hC d_in_compare_15 (by decide) ?_
      exact r_iret hC hR d_in_compare_19 rfl rfl
  ·
    refine r_iconst (v := (-1)) hC d_in_compare_5 (by decide) ?_
    refine r_goto (tgt := 19) hC d_in_compare_6 (by decide) ?_
    exact r_iret hC hR d_in_compare_19 rfl rfl
/-! java/lang/Integer.bitCount(I)I -/
def in_bitCount (a1 : Int32) : Int32 := ((((((((a1 - (((Int32.toUInt32 a1 >>> (Int32.toUInt32 1 &&& Int32.toUInt32 31)).toInt32) &&& 1431655765)) &&& 858993459) + (((Int32.toUInt32 (a1 - (((Int32.toUInt32 a1 >>> (Int32.toUInt32 1 &&& Int32.toUInt32 31)).toInt32) &&& 1431655765)) >>> (Int32.toUInt32 2 &&& Int32.toUInt32 31)).toInt32) &&& 858993459)) + ((Int32.toUInt32 (((a1 - (((Int32.toUInt32 a1 >>> (Int32.toUInt32 1 &&& Int32.toUInt32 31)).toInt32) &&& 1431655765)) &&& 858993459) + (((Int32.toUInt32 (a1 - (((Int32.toUInt32 a1 >>> (Int32.toUInt32 1 &&& Int32.toUInt32 31)).toInt32) &&& 1431655765)) >>> (Int32.toUInt32 2 &&& Int32.toUInt32 31)).toInt32) &&& 858993459)) >>> (Int32.toUInt32 4 &&& Int32.toUInt32 31)).toInt32)) &&& 252645135) + ((Int32.toUInt32 (((((a1 - (((Int32.toUInt32 a1 >>> (Int32.toUInt32 1 &&& Int32.toUInt32 31)).toInt32) &&& 1431655765)) &&& 858993459) + (((Int32.toUInt32 (a1 - (((Int32.toUInt32 a1 >>> (Int32.toUInt32 1 &&& Int32.toUInt32 31)).toInt32) &&& 1431655765)) >>> (Int32.toUInt32 2 &&& Int32.toUInt32 31)).toInt32) &&& 858993459)) + ((Int32.toUInt32 (((a1 - (((Int32.toUInt32 a1 >>> (Int32.toUInt32 1 &&& Int32.toUInt32 31)).toInt32) &&& 1431655765)) &&& 858993459) + (((Int32.toUInt32 (a1 - (((Int32.toUInt32 a1 >>> (Int32.toUInt32 1 &&& Int32.toUInt32 31)).toInt32) &&& 1431655765)) >>> (Int32.toUInt32 2 &&& Int32.toUInt32 31)).toInt32) &&& 858993459)) >>> (Int32.toUInt32 4 &&& Int32.toUInt32 31)).toInt32)) &&& 252645135) >>> (Int32.toUInt32 8 &&& Int32.toUInt32 31)).toInt32)) + ((Int32.toUInt32 ((((((a1 - (((Int32.toUInt32 a1 >>> (Int32.toUInt32 1 &&& Int32.toUInt32 31)).toInt32) &&& 1431655765)) &&& 858993459) + (((Int32.toUInt32 (a1 - (((Int32.toUInt32 a1 >>> (Int32.toUInt32 1 &&& Int32.toUInt32 31)).toInt32) &&& 1431655765)) >>> (Int32.toUInt32 2 &&& Int32.toUInt32 31)).toInt32) &&& 858993459)) + ((Int32.toUInt32 (((a1 - (((Int32.toUInt32 a1 >>> (Int32.toUInt32 1 &&& Int32.toUInt32 31)).toInt32) &&& 1431655765)) &&& 858993459) + (((Int32.toUInt32 (a1 - (((Int32.toUInt32 a1 >>> (Int32.toUInt32 1 &&& Int32.toUInt32 31)).toInt32) &&& 1431655765)) >>> (Int32.toUInt32 2 &&& Int32.toUInt32 31)).toInt32) &&& 858993459)) >>> (Int32.toUInt32 4 &&& Int32.toUInt32 31)).toInt32)) &&& 252645135) + ((Int32.toUInt32 (((((a1 - (((Int32.toUInt32 a1 >>> (Int32.toUInt32 1 &&& Int32.toUInt32 31)).toInt32) &&& 1431655765)) &&& 858993459) + (((Int32.toUInt32 (a1 - (((Int32.toUInt32 a1 >>> (Int32.toUInt32 1 &&& Int32.toUInt32 31)).toInt32) &&& 1431655765)) >>> (Int32.toUInt32 2 &&& Int32.toUInt32 31)).toInt32) &&& 858993459)) + ((Int32.toUInt32 (((a1 - (((Int32.toUInt32 a1 >>> (Int32.toUInt32 1 &&& Int32.toUInt32 31)).toInt32) &&& 1431655765)) &&& 858993459) + (((Int32.toUInt32 (a1 - (((Int32.toUInt32 a1 >>> (Int32.toUInt32 1 &&& Int32.toUInt32 31)).toInt32) &&& 1431655765)) >>> (Int32.toUInt32 2 &&& Int32.toUInt32 31)).toInt32) &&& 858993459)) >>> (Int32.toUInt32 4 &&& Int32.toUInt32 31)).toInt32)) &&& 252645135) >>> (Int32.toUInt32 8 &&& Int32.toUInt32 31)).toInt32)) >>> (Int32.toUInt32 16 &&& Int32.toUInt32 31)).toInt32)) &&& 63)
set_option maxHeartbeats 4000000 in
set_option maxRecDepth 20000 in
theorem c_in_bitCount (G : tt_G) (st : tt_St) (a1 : Int32)  : tt_C y_in_bitCount prog_9_method_49_code 1 (some .int) 0 0 G [.int a1] st (some (.int (in_bitCount a1))) st := by
  refine tt_enter (α := Int32) (mk := fun r => (some (.int r), st)) (T := (in_bitCount a1)) (by decide +kernel) (Nat.le_of_ble_eq_true rfl) (fun κ hC hR => ?_)
  rw [in_bitCount]
  refine r_iload_n 0 hC d_in_bitCount_0 rfl ?_
  refine r_iload_n 0 hC d_in_bitCount_1 rfl ?_
  refine r_iconst (v := 1) hC d_in_bitCount_2 (by decide) ?_
  refine r_iushr hC d_in_bitCount_3 ?_
  refine r_ldcw hC d_in_bitCount_4 k_in_265 ?_
  refine r_iand hC d_in_bitCount_7 ?_
  refine r_isub hC d_in_bitCount_8 ?_
  refine r_istore_n [(0, .int (a1 - (((Int32.toUInt32 a1 >>> (Int32.toUInt32 1 &&& Int32.toUInt32 31)).toInt32) &&& 1431655765)))] hC d_in_bitCount_9 rfl (by decide) rfl ?_
  refine r_iload_n 0 hC d_in_bitCount_10 rfl ?_
  refine r_ldcw hC d_in_bitCount_11 k_in_266 ?_
  refine r_iand hC d_in_bitCount_14 ?_
  refine r_iload_n 0 hC d_in_bitCount_15 rfl ?_
  refine r_iconst (v := 2) hC d_in_bitCount_16 (by decide) ?_
  refine r_iushr hC d_in_bitCount_17 ?_
  refine r_ldcw hC d_in_bitCount_18 k_in_266 ?_
  refine r_iand hC d_in_bitCount_21 ?_
  refine r_iadd hC d_in_bitCount_22 ?_
  refine r_istore_n [(0, .int (((a1 - (((Int32.toUInt32 a1 >>> (Int32.toUInt32 1 &&& Int32.toUInt32 31)).toInt32) &&& 1431655765)) &&& 858993459) + (((Int32.toUInt32 (a1 - (((Int32.toUInt32 a1 >>> (Int32.toUInt32 1 &&& Int32.toUInt32 31)).toInt32) &&& 1431655765)) >>> (Int32.toUInt32 2 &&& Int32.toUInt32 31)).toInt32) &&& 858993459)))] hC d_in_bitCount_23 rfl (by decide) rfl ?_
  refine r_iload_n 0 hC d_in_bitCount_24 rfl ?_
  refine r_iload_n 0 hC d_in_bitCount_25 rfl ?_
  refine r_iconst (v := 4) hC d_in_bitCount_26 (by decide) ?_
  refine r_iushr hC d_in_bitCount_27 ?_
  refine r_iadd hC d_in_bitCount_28 ?_
  refine r_ldcw hC d_in_bitCount_29 k_in_267 ?_
  refine r_iand hC d_in_bitCount_32 ?_
  refine r_istore_n [(0, .int (((((a1 - (((Int32.toUInt32 a1 >>> (Int32.toUInt32 1 &&& Int32.toUInt32 31)).toInt32) &&& 1431655765)) &&& 858993459) + (((Int32.toUInt32 (a1 - (((Int32.toUInt32 a1 >>> (Int32.toUInt32 1 &&& Int32.toUInt32 31)).toInt32) &&& 1431655765)) >>> (Int32.toUInt32 2 &&& Int32.toUInt32 31)).toInt32) &&& 858993459)) + ((Int32.toUInt32 (((a1 - (((Int32.toUInt32 a1 >>> (Int32.toUInt32 1 &&& Int32.toUInt32 31)).toInt32) &&& 1431655765)) &&& 858993459) + (((Int32.toUInt32 (a1 - (((Int32.toUInt32 a1 >>> (Int32.toUInt32 1 &&& Int32.toUInt32 31)).toInt32) &&& 1431655765)) >>> (Int32.toUInt32 2 &&& Int32.toUInt32 31)).toInt32) &&& 858993459)) >>> (Int32.toUInt32 4 &&& Int32.toUInt32 31)).toInt32)) &&& 252645135))] hC d_in_bitCount_33 rfl (by decide) rfl ?_
  refine r_iload_n 0 hC d_in_bitCount_34 rfl ?_
  refine r_iload_n 0 hC d_in_bitCount_35 rfl ?_
  refine r_bipush (v := 8) hC d_in_bitCount_36 (by decide) ?_
  refine r_iushr hC d_in_bitCount_38 ?_
  refine r_iadd hC d_in_bitCount_39 ?_
  refine r_istore_n [(0, .int ((((((a1 - (((Int32.toUInt32 a1 >>> (Int32.toUInt32 1 &&& Int32.toUInt32 31)).toInt32) &&& 1431655765)) &&& 858993459) + (((Int32.toUInt32 (a1 - (((Int32.toUInt32 a1 >>> (Int32.toUInt32 1 &&& Int32.toUInt32 31)).toInt32) &&& 1431655765)) >>> (Int32.toUInt32 2 &&& Int32.toUInt32 31)).toInt32) &&& 858993459)) + ((Int32.toUInt32 (((a1 - (((Int32.toUInt32 a1 >>> (Int32.toUInt32 1 &&& Int32.toUInt32 31)).toInt32) &&& 1431655765)) &&& 858993459) + (((Int32.toUInt32 (a1 - (((Int32.toUInt32 a1 >>> (Int32.toUInt32 1 &&& Int32.toUInt32 31)).toInt32) &&& 1431655765)) >>> (Int32.toUInt32 2 &&& Int32.toUInt32 31)).toInt32) &&& 858993459)) >>> (Int32.toUInt32 4 &&& Int32.toUInt32 31)).toInt32)) &&& 252645135) + ((Int32.toUInt32 (((((a1 - (((Int32.toUInt32 a1 >>> (Int32.toUInt32 1 &&& Int32.toUInt32 31)).toInt32) &&& 1431655765)) &&& 858993459) + (((Int32.toUInt32 (a1 - (((Int32.toUInt32 a1 >>> (Int32.toUInt32 1 &&& Int32.toUInt32 31)).toInt32) &&& 1431655765)) >>> (Int32.toUInt32 2 &&& Int32.toUInt32 31)).toInt32) &&& 858993459)) + ((Int32.toUInt32 (((a1 - (((Int32.toUInt32 a1 >>> (Int32.toUInt32 1 &&& Int32.toUInt32 31)).toInt32) &&& 1431655765)) &&& 858993459) + (((Int32.toUInt32 (a1 - (((Int32.toUInt32 a1 >>> (Int32.toUInt32 1 &&& Int32.toUInt32 31)).toInt32) &&& 1431655765)) >>> (Int32.toUInt32 2 &&& Int32.toUInt32 31)).toInt32) &&& 858993459)) >>> (Int32.toUInt32 4 &&& Int32.toUInt32 31)).toInt32)) &&& 252645135) >>> (Int32.toUInt32 8 &&& Int32.toUInt32 31)).toInt32)))] hC d_in_bitCount_40 rfl (by decide) rfl ?_
  refine r_iload_n 0 hC d_in_bitCount_41 rfl ?_
  refine r_iload_n 0 hC d_in_bitCount_42 rfl ?_
  refine r_bipush (v := 16) hC d_in_bitCount_43 (by decide) ?_
  refine r_iushr hC d_in_bitCount_45 ?_
  refine r_iadd hC d_in_bitCount_46 ?_
  refine r_istore_n [(0, .int (((((((a1 - (((Int32.toUInt32 a1 >>> (Int32.toUInt32 1 &&& Int32.toUInt32 31)).toInt32) &&& 1431655765)) &&& 858993459) + (((Int32.toUInt32 (a1 - (((Int32.toUInt32 a1 >>> (Int32.toUInt32 1 &&& Int32.toUInt32 31)).toInt32) &&& 1431655765)) >>> (Int32.toUInt32 2 &&& Int32.toUInt32 31)).toInt32) &&& 858993459)) + ((Int32.toUInt32 (((a1 - (((Int32.toUInt32 a1 >>> (Int32.toUInt32 1 &&& Int32.toUInt32 31)).toInt32) &&& 1431655765)) &&& 858993459) + (((Int32.toUInt32 (a1 - (((Int32.toUInt32 a1 >>> (Int32.toUInt32 1 &&& Int32.toUInt32 31)).toInt32) &&& 1431655765)) >>> (Int32.toUInt32 2 &&& Int32.toUInt32 31)).toInt32) &&& 858993459)) >>> (Int32.toUInt32 4 &&& Int32.toUInt32 31)).toInt32)) &&& 252645135) + ((Int32.toUInt32 (((((a1 - (((Int32.toUInt32 a1 >>> (Int32.toUInt32 1 &&& Int32.toUInt32 31)).toInt32) &&& 1431655765)) &&& 858993459) + (((Int32.toUInt32 (a1 - (((Int32.toUInt32 a1 >>> (Int32.toUInt32 1 &&& Int32.toUInt32 31)).toInt32) &&& 1431655765)) >>> (Int32.toUInt32 2 &&& Int32.toUInt32 31)).toInt32) &&& 858993459)) + ((Int32.toUInt32 (((a1 - (((Int32.toUInt32 a1 >>> (Int32.toUInt32 1 &&& Int32.toUInt32 31)).toInt32) &&& 1431655765)) &&& 858993459) + (((Int32.toUInt32 (a1 - (((Int32.toUInt32 a1 >>> (Int32.toUInt32 1 &&& Int32.toUInt32 31)).toInt32) &&& 1431655765)) >>> (Int32.toUInt32 2 &&& Int32.toUInt32 31)).toInt32) &&& 858993459)) >>> (Int32.toUInt32 4 &&& Int32.toUInt32 31)).toInt32)) &&& 252645135) >>> (Int32.toUInt32 8 &&& Int32.toUInt32 31)).toInt32)) + ((Int32.toUInt32 ((((((a1 - (((Int32.toUInt32 a1 >>> (Int32.toUInt32 1 &&& Int32.toUInt32 31)).toInt32) &&& 1431655765)) &&& 858993459) + (((Int32.toUInt32 (a1 - (((Int32.toUInt32 a1 >>> (Int32.toUInt32 1 &&& Int32.toUInt32 31)).toInt32) &&& 1431655765)) >>> (Int32.toUInt32 2 &&& Int32.toUInt32 31)).toInt32) &&& 858993459)) + ((Int32.toUInt32 (((a1 - (((Int32.toUInt32 a1 >>> (Int32.toUInt32 1 &&& Int32.toUInt32 31)).toInt32) &&& 1431655765)) &&& 858993459) + (((Int32.toUInt32 (a1 - (((Int32.toUInt32 a1 >>> (Int32.toUInt32 1 &&& Int32.toUInt32 31)).toInt32) &&& 1431655765)) >>> (Int32.toUInt32 2 &&& Int32.toUInt32 31)).toInt32) &&& 858993459)) >>> (Int32.toUInt32 4 &&& Int32.toUInt32 31)).toInt32)) &&& 252645135) + ((Int32.toUInt32 (((((a1 - (((Int32.toUInt32 a1 >>> (Int32.toUInt32 1 &&& Int32.toUInt32 31)).toInt32) &&& 1431655765)) &&& 858993459) + (((Int32.toUInt32 (a1 - (((Int32.toUInt32 a1 >>> (Int32.toUInt32 1 &&& Int32.toUInt32 31)).toInt32) &&& 1431655765)) >>> (Int32.toUInt32 2 &&& Int32.toUInt32 31)).toInt32) &&& 858993459)) + ((Int32.toUInt32 (((a1 - (((Int32.toUInt32 a1 >>> (Int32.toUInt32 1 &&& Int32.toUInt32 31)).toInt32) &&& 1431655765)) &&& 858993459) + (((Int32.toUInt32 (a1 - (((Int32.toUInt32 a1 >>> (Int32.toUInt32 1 &&& Int32.toUInt32 31)).toInt32) &&& 1431655765)) >>> (Int32.toUInt32 2 &&& Int32.toUInt32 31)).toInt32) &&& 858993459)) >>> (Int32.toUInt32 4 &&& Int32.toUInt32 31)).toInt32)) &&& 252645135) >>> (Int32.toUInt32 8 &&& Int32.toUInt32 31)).toInt32)) >>> (Int32.toUInt32 16 &&& Int32.toUInt32 31)).toInt32)))] hC d_in_bitCount_47 rfl (by decide) rfl ?_
  refine r_iload_n 0 hC d_in_bitCount_48 rfl ?_
  refine r_bipush (v := 63) hC d_in_bitCount_49 (by decide) ?_
  refine r_iand hC d_in_bitCount_51 ?_
  exact r_iret hC hR d_in_bitCount_52 rfl rfl
/-! TideTableModel.quarter(I)I -/
def mo_quarter (a1 : Int32) : Int32 := (if a1 = 0 then 1000 else (if a1 = 1 then 995 else (if a1 = 2 then 981 else (if a1 = 3 then 957 else (if a1 = 4 then 924 else (if a1 = 5 then 882 else (if a1 = 6 then 831 else (if a1 = 7 then 773 else (if a1 = 8 then 707 else (if a1 = 9 then 634 else (if a1 = 10 then 556 else (if a1 = 11 then 471 else (if a1 = 12 then 383 else (if a1 = 13 then 290 else (if a1 = 14 then 195 else (if a1 = 15 then 98 else 0))))))))))))))))
set_option maxHeartbeats 4000000 in
set_option maxRecDepth 20000 in
theorem c_mo_quarter (G : tt_G) (st : tt_St) (a1 : Int32)  : tt_C y_mo_quarter prog_7_method_3_code 1 (some .int) 0 0 G [.int a1] st (some (.int (mo_quarter a1))) st := by
  refine tt_enter (α := Int32) (mk := fun r => (some (.int r), st)) (T := (mo_quarter a1)) (by decide +kernel) (Nat.le_of_ble_eq_true rfl) (fun κ hC hR => ?_)
  rw [mo_quarter]
  refine r_iload_n 0 hC d_mo_quarter_0 rfl ?_
  refine tt_ite (c := a1 = 0) (fun c_1_0 => ?_) (fun c_1_0 => ?_)
  ·
    refine r_tabIn (tgt := 80) (off := 79) hC d_mo_quarter_1 (by rw [c_1_0]; decide) (by rw [c_1_0]; decide) (by rw [c_1_0]; decide) (by decide) ?_
    refine r_sipush (v := 1000) hC d_mo_quarter_80 (by decide) ?_
    exact r_iret hC hR d_mo_quarter_83 rfl rfl
  ·
    refine tt_ite (c := a1 = 1) (fun c_1_1 => ?_) (fun c_1_1 => ?_)
    ·
      refine r_tabIn (tgt := 84) (off := 83) hC d_mo_quarter_1 (by rw [c_1_1]; decide) (by rw [c_1_1]; decide) (by rw [c_1_1]; decide) (by decide) ?_
      refine r_sipush (v := 995) hC d_mo_quarter_84 (by decide) ?_
      exact r_iret hC hR d_mo_quarter_87 rfl rfl
    ·
      refine tt_ite (c := a1 = 2) (fun c_1_2 => ?_) (fun c_1_2 => ?_)
      ·
        refine r_tabIn (tgt := 88) (off := 87) hC d_mo_quarter_1 (by rw [c_1_2]; decide) (by rw [c_1_2]; decide) (by rw [c_1_2]; decide) (by decide) ?_
        refine r_sipush (v := 981) hC d_mo_quarter_88 (by decide) ?_
        exact r_iret hC hR d_mo_quarter_91 rfl rfl
      ·
        refine tt_ite (c := a1 = 3) (fun c_1_3 => ?_) (fun c_1_3 => ?_)
        ·
          refine r_tabIn (tgt := 92) (off := 91) hC d_mo_quarter_1 (by rw [c_1_3]; decide) (by rw [c_1_3]; decide) (by rw [c_1_3]; decide) (by decide) ?_
          refine r_sipush (v := 957) hC d_mo_quarter_92 (by decide) ?_
          exact r_iret hC hR d_mo_quarter_95 rfl rfl
        ·
          refine tt_ite (c := a1 = 4) (fun c_1_4 => ?_) (fun c_1_4 => ?_)
          ·
            refine r_tabIn (tgt := 96) (off := 95) hC d_mo_quarter_1 (by rw [c_1_4]; decide) (by rw [c_1_4]; decide) (by rw [c_1_4]; decide) (by decide) ?_
            refine r_sipush (v := 924) hC d_mo_quarter_96 (by decide) ?_
            exact r_iret hC hR d_mo_quarter_99 rfl rfl
          ·
            refine tt_ite (c := a1 = 5) (fun c_1_5 => ?_) (fun c_1_5 => ?_)
            ·
              refine r_tabIn (tgt := 100) (off := 99) hC d_mo_quarter_1 (by rw [c_1_5]; decide) (by rw [c_1_5]; decide) (by rw [c_1_5]; decide) (by decide) ?_
              refine r_sipush (v := 882) hC d_mo_quarter_100 (by decide) ?_
              exact r_iret hC hR d_mo_quarter_103 rfl rfl
            ·
              refine tt_ite (c := a1 = 6) (fun c_1_6 => ?_) (fun c_1_6 => ?_)
              ·
                refine r_tabIn (tgt := 104) (off := 103) hC d_mo_quarter_1 (by rw [c_1_6]; decide) (by rw [c_1_6]; decide) (by rw [c_1_6]; decide) (by decide) ?_
                refine r_sipush (v := 831) hC d_mo_quarter_104 (by decide) ?_
                exact r_iret hC hR d_mo_quarter_107 rfl rfl
              ·
                refine tt_ite (c := a1 = 7) (fun c_1_7 => ?_) (fun c_1_7 => ?_)
                ·
                  refine r_tabIn (tgt := 108) (off := 107) hC d_mo_quarter_1 (by rw [c_1_7]; decide) (by rw [c_1_7]; decide) (by rw [c_1_7]; decide) (by decide) ?_
                  refine r_sipush (v := 773) hC d_mo_quarter_108 (by decide) ?_
                  exact r_iret hC hR d_mo_quarter_111 rfl rfl
                ·
                  refine tt_ite (c := a1 = 8) (fun c_1_8 => ?_) (fun c_1_8 => ?_)
                  ·
                    refine r_tabIn (tgt := 112) (off := 111) hC d_mo_quarter_1 (by rw [c_1_8]; decide) (by rw [c_1_8]; decide) (by rw [c_1_8]; decide) (by decide) ?_
                    refine r_sipush (v := 707) hC d_mo_quarter_112 (by decide) ?_
                    exact r_iret hC hR d_mo_quarter_115 rfl rfl
                  ·
                    refine tt_ite (c := a1 = 9) (fun c_1_9 => ?_) (fun c_1_9 => ?_)
                    ·
                      refine r_tabIn (tgt := 116) (off := 115) hC d_mo_quarter_1 (by rw [c_1_9]; decide) (by rw [c_1_9]; decide) (by rw [c_1_9]; decide) (by decide) ?_
                      refine r_sipush (v := 634) hC d_mo_quarter_116 (by decide) ?_
                      exact r_iret hC hR d_mo_quarter_119 rfl rfl
                    ·
                      refine tt_ite (c := a1 = 10) (fun c_1_10 => ?_) (fun c_1_10 => ?_)
                      ·
                        refine r_tabIn (tgt := 120) (off := 119) hC d_mo_quarter_1 (by rw [c_1_10]; decide) (by rw [c_1_10]; decide) (by rw [c_1_10]; decide) (by decide) ?_
                        refine r_sipush (v := 556) hC d_mo_quarter_120 (by decide) ?_
                        exact r_iret hC hR d_mo_quarter_123 rfl rfl
                      ·
                        refine tt_ite (c := a1 = 11) (fun c_1_11 => ?_) (fun c_1_11 => ?_)
                        ·
                          refine r_tabIn (tgt := 124) (off := 123) hC d_mo_quarter_1 (by rw [c_1_11]; decide) (by rw [c_1_11]; decide) (by rw [c_1_11]; decide) (by decide) ?_
                          refine r_sipush (v := 471) hC d_mo_quarter_124 (by decide) ?_
                          exact r_iret hC hR d_mo_quarter_127 rfl rfl
                        ·
                          refine tt_ite (c := a1 = 12) (fun c_1_12 => ?_) (fun c_1_12 => ?_)
                          ·
                            refine r_tabIn (tgt := 128) (off := 127) hC d_mo_quarter_1 (by rw [c_1_12]; decide) (by rw [c_1_12]; decide) (by rw [c_1_12]; decide) (by decide) ?_
                            refine r_sipush (v := 383) hC d_mo_quarter_128 (by decide) ?_
                            exact r_iret hC hR d_mo_quarter_131 rfl rfl
                          ·
                            refine tt_ite (c := a1 = 13) (fun c_1_13 => ?_) (fun c_1_13 => ?_)
                            ·
                              refine r_tabIn (tgt := 132) (off := 131) hC d_mo_quarter_1 (by rw [c_1_13]; decide) (by rw [c_1_13]; decide) (by rw [c_1_13]; decide) (by decide) ?_
                              refine r_sipush (v := 290) hC d_mo_quarter_132 (by decide) ?_
                              exact r_iret hC hR d_mo_quarter_135 rfl rfl
                            ·
                              refine tt_ite (c := a1 = 14) (fun c_1_14 => ?_) (fun c_1_14 => ?_)
                              ·
                                refine r_tabIn (tgt := 136) (off := 135) hC d_mo_quarter_1 (by rw [c_1_14]; decide) (by rw [c_1_14]; decide) (by rw [c_1_14]; decide) (by decide) ?_
                                refine r_sipush (v := 195) hC d_mo_quarter_136 (by decide) ?_
                                exact r_iret hC hR d_mo_quarter_139 rfl rfl
                              ·
                                refine tt_ite (c := a1 = 15) (fun c_1_15 => ?_) (fun c_1_15 => ?_)
                                ·
                                  refine r_tabIn (tgt := 140) (off := 139) hC d_mo_quarter_1 (by rw [c_1_15]; decide) (by rw [c_1_15]; decide) (by rw [c_1_15]; decide) (by decide) ?_
                                  refine r_bipush (v := 98) hC d_mo_quarter_140 (by decide) ?_
                                  exact r_iret hC hR d_mo_quarter_142 rfl rfl
                                ·
                                  have nc_1_0 := lv_neT (a := 0) c_1_0 (by decide)
                                  have nc_1_1 := lv_neT (a := 1) c_1_1 (by decide)
                                  have nc_1_2 := lv_neT (a := 2) c_1_2 (by decide)
                                  have nc_1_3 := lv_neT (a := 3) c_1_3 (by decide)
                                  have nc_1_4 := lv_neT (a := 4) c_1_4 (by decide)
                                  have nc_1_5 := lv_neT (a := 5) c_1_5 (by decide)
                                  have nc_1_6 := lv_neT (a := 6) c_1_6 (by decide)
                                  have nc_1_7 := lv_neT (a := 7) c_1_7 (by decide)
                                  have nc_1_8 := lv_neT (a := 8) c_1_8 (by decide)
                                  have nc_1_9 := lv_neT (a := 9) c_1_9 (by decide)
                                  have nc_1_10 := lv_neT (a := 10) c_1_10 (by decide)
                                  have nc_1_11 := lv_neT (a := 11) c_1_11 (by decide)
                                  have nc_1_12 := lv_neT (a := 12) c_1_12 (by decide)
                                  have nc_1_13 := lv_neT (a := 13) c_1_13 (by decide)
                                  have nc_1_14 := lv_neT (a := 14) c_1_14 (by decide)
                                  have nc_1_15 := lv_neT (a := 15) c_1_15 (by decide)
                                  refine r_tabOut (tgt := 143) hC d_mo_quarter_1 (by omega) (by decide) ?_
                                  refine r_iconst (v := 0) hC d_mo_quarter_143 (by decide) ?_
                                  exact r_iret hC hR d_mo_quarter_144 rfl rfl
/-! TideTableModel.within(III)Z -/
def mo_within (a1 : Int32) (a2 : Int32) (a3 : Int32) : Int32 := (if a1 < a2 then 0 else (if a3 < a1 then 0 else 1))
set_option maxHeartbeats 4000000 in
set_option maxRecDepth 20000 in
theorem c_mo_within (G : tt_G) (st : tt_St) (a1 : Int32) (a2 : Int32) (a3 : Int32)  : tt_C y_mo_within prog_7_method_4_code 3 (some .boolean) 0 0 G [.int a1, .int a2, .int a3] st (some (.int (mo_within a1 a2 a3))) st := by
  refine tt_enter (α := Int32) (mk := fun r => (some (.int r), st)) (T := (mo_within a1 a2 a3)) (by decide +kernel) (Nat.le_of_ble_eq_true rfl) (fun κ hC hR => ?_)
  rw [mo_within]
  refine r_iload_n 0 hC d_mo_within_0 rfl ?_
  refine r_iload_n 1 hC d_mo_within_1 rfl ?_
  refine r_icmp_lt (tgt := 14) hC d_mo_within_2 (by decide) (fun c_2 => ?_) (fun c_2 => ?_)
  ·
    refine r_iconst (v := 0) hC d_mo_within_14 (by decide) ?_
    exact r_iret hC hR d_mo_within_15 rfl rfl
  ·
    refine r_iload_n 0 hC d_mo_within_5 rfl ?_
    refine r_iload_n 2 hC d_mo_within_6 rfl ?_
    refine r_icmp_gt (tgt := 14) hC d_mo_within_7 (by decide) (fun c_7 => ?_) (fun c_7 => ?_)
    ·
      refine r_iconst (v := 0) hC d_mo_within_14 (by decide) ?_
      exact r_iret hC hR d_mo_within_15 rfl rfl
    ·
      refine r_iconst (v := 1) hC d_mo_within_10 (by decide) ?_
      refine r_goto (tgt := 15) hC d_mo_within_11 (by decide) ?_
      exact r_iret hC hR d_mo_within_15 rfl rfl
/-! TideTableModel.isIn(II)Z -/
def mo_isIn (a1 : Int32) (a2 : Int32) : Int32 := (if ((a1 >>> (a2 &&& 31)) &&& 1) = 1 then 1 else 0)
set_option maxHeartbeats 4000000 in
set_option maxRecDepth 20000 in
theorem c_mo_isIn (G : tt_G) (st : tt_St) (a1 : Int32) (a2 : Int32)  : tt_C y_mo_isIn prog_7_method_5_code 2 (some .boolean) 0 0 G [.int a1, .int a2] st (some (.int (mo_isIn a1 a2))) st := by
  refine tt_enter (α := Int32) (mk := fun r => (some (.int r), st)) (T := (mo_isIn a1 a2)) (by decide +kernel) (Nat.le_of_ble_eq_true rfl) (fun κ hC hR => ?_)
  rw [mo_isIn]
  refine r_iload_n 0 hC d_mo_isIn_0 rfl ?_
  refine r_iload_n 1 hC d_mo_isIn_1 rfl ?_
  refine r_ishr hC d_mo_isIn_2 ?_
  refine r_iconst (v := 1) hC d_mo_isIn_3 (by decide) ?_
  refine r_iand hC d_mo_isIn_4 ?_
  refine r_iconst (v := 1) hC d_mo_isIn_5 (by decide) ?_
  refine r_icmp_ne (tgt := 13) hC d_mo_isIn_6 (by decide) (fun c_6 => ?_) (fun c_6 => ?_)
  ·
    refine r_iconst (v := 0) hC d_mo_isIn_13 (by decide) ?_
    exact r_iret hC hR d_mo_isIn_14 rfl rfl
  ·
    refine r_iconst (v := 1) hC d_mo_isIn_9 (by decide) ?_
    refine r_goto (tgt := 14) hC d_mo_isIn_10 (by decide) ?_
    exact r_iret hC hR d_mo_isIn_14 rfl rfl
/-! TideTableModel.by(II)I -/
def mo_by (a1 : Int32) (a2 : Int32) : Int32 := (if 0 ≤ (a1 - a1 / a2 * a2) then (a1 / a2) else ((a1 / a2) - 1))
set_option maxHeartbeats 4000000 in
set_option maxRecDepth 20000 in
theorem c_mo_by (G : tt_G) (st : tt_St) (a1 : Int32) (a2 : Int32) (hd : ¬ a2 = 0) : tt_C y_mo_by prog_7_method_7_code 3 (some .int) 0 0 G [.int a1, .int a2] st (some (.int (mo_by a1 a2))) st := by
  refine tt_enter (α := Int32) (mk := fun r => (some (.int r), st)) (T := (mo_by a1 a2)) (by decide +kernel) (Nat.le_of_ble_eq_true rfl) (fun κ hC hR => ?_)
  rw [mo_by]
  refine r_iload_n 0 hC d_mo_by_0 rfl ?_
  refine r_iload_n 1 hC d_mo_by_1 rfl ?_
  refine r_idiv hC d_mo_by_2 hd ?_
  refine r_istore_n [(2, .int (a1 / a2)), (0, .int a1), (1, .int a2)] hC d_mo_by_3 rfl (by decide) rfl ?_
  refine r_iload_n 1 hC d_mo_by_4 rfl ?_
  refine r_iload_n 2 hC d_mo_by_5 rfl ?_
  refine r_irem hC d_mo_by_6 hd ?_
  refine r_if_ge (tgt := 16) hC d_mo_by_7 (by decide) (fun c_7 => ?_) (fun c_7 => ?_)
  ·
    refine r_iload_n 0 hC d_mo_by_16 rfl ?_
    exact r_iret hC hR d_mo_by_17 rfl rfl
  ·
    refine r_iload_n 0 hC d_mo_by_10 rfl ?_
    refine r_iconst (v := 1) hC d_mo_by_11 (by decide) ?_
    refine r_isub hC d_mo_by_12 ?_
    refine r_goto (tgt := 17) hC d_mo_by_13 (by decide) ?_
    exact r_iret hC hR d_mo_by_17 rfl rfl
/-! TideTableModel.kindBy(I)I -/
def mo_kindBy (a1 : Int32) : Int32 := (if a1 = 98 then 2 else (if a1 = 102 then 3 else (if a1 = 112 then 0 else (if a1 = 115 then 1 else (if a1 = 116 then 4 else (-10001))))))
set_option maxHeartbeats 4000000 in
set_option maxRecDepth 20000 in
theorem c_mo_kindBy (G : tt_G) (st : tt_St) (a1 : Int32)  : tt_C y_mo_kindBy prog_7_method_10_code 1 (some .int) 0 0 G [.int a1] st (some (.int (mo_kindBy a1))) st := by
  refine tt_enter (α := Int32) (mk := fun r => (some (.int r), st)) (T := (mo_kindBy a1)) (by decide +kernel) (Nat.le_of_ble_eq_true rfl) (fun κ hC hR => ?_)
  rw [mo_kindBy]
  refine r_iload_n 0 hC d_mo_kindBy_0 rfl ?_
  refine tt_ite (c := a1 = 98) (fun c_1_98 => ?_) (fun c_1_98 => ?_)
  ·
    refine r_look (tgt := 56) (off := 55) hC d_mo_kindBy_1 (by decide) (by rw [c_1_98]; decide) (by decide) ?_
    refine r_iconst (v := 2) hC d_mo_kindBy_56 (by decide) ?_
    exact r_iret hC hR d_mo_kindBy_57 rfl rfl
  ·
    refine tt_ite (c := a1 = 102) (fun c_1_102 => ?_) (fun c_1_102 => ?_)
    ·
      refine r_look (tgt := 58) (off := 57) hC d_mo_kindBy_1 (by decide) (by rw [c_1_102]; decide) (by decide) ?_
      refine r_iconst (v := 3) hC d_mo_kindBy_58 (by decide) ?_
      exact r_iret hC hR d_mo_kindBy_59 rfl rfl
    ·
      refine tt_ite (c := a1 = 112) (fun c_1_112 => ?_) (fun c_1_112 => ?_)
      ·
        refine r_look (tgt := 52) (off := 51) hC d_mo_kindBy_1 (by decide) (by rw [c_1_112]; decide) (by decide) ?_
        refine r_iconst (v := 0) hC d_mo_kindBy_52 (by decide) ?_
        exact r_iret hC hR d_mo_kindBy_53 rfl rfl
      ·
        refine tt_ite (c := a1 = 115) (fun c_1_115 => ?_) (fun c_1_115 => ?_)
        ·
          refine r_look (tgt := 54) (off := 53) hC d_mo_kindBy_1 (by decide) (by rw [c_1_115]; decide) (by decide) ?_
          refine r_iconst (v := 1) hC d_mo_kindBy_54 (by decide) ?_
          exact r_iret hC hR d_mo_kindBy_55 rfl rfl
        ·
          refine tt_ite (c := a1 = 116) (fun c_1_116 => ?_) (fun c_1_116 => ?_)
          ·
            refine r_look (tgt := 60) (off := 59) hC d_mo_kindBy_1 (by decide) (by rw [c_1_116]; decide) (by decide) ?_
            refine r_iconst (v := 4) hC d_mo_kindBy_60 (by decide) ?_
            exact r_iret hC hR d_mo_kindBy_61 rfl rfl
          ·
            refine r_look (tgt := 62) (off := 61) hC d_mo_kindBy_1 (by decide) ((lv_osw c_1_98 (by decide)).trans ((lv_osw c_1_102 (by decide)).trans ((lv_osw c_1_112 (by decide)).trans ((lv_osw c_1_115 (by decide)).trans ((lv_osw c_1_116 (by decide)).trans rfl))))) (by decide) ?_
            refine r_sipush (v := (-10001)) hC d_mo_kindBy_62 (by decide) ?_
            exact r_iret hC hR d_mo_kindBy_65 rfl rfl
/-! TideTableModel.could(II)Z -/
def mo_could (a1 : Int32) (a2 : Int32) : Int32 := (if a2 = 0 then (if a1 = 1 then 1 else (if a1 = 2 then 1 else 0)) else (if a2 = 1 then (if a1 = 2 then 1 else 0) else (if a2 = 2 then (if a1 = 3 then 1 else 0) else (if a1 = 4 then 1 else 0))))
set_option maxHeartbeats 4000000 in
set_option maxRecDepth 20000 in
theorem c_mo_could (G : tt_G) (st : tt_St) (a1 : Int32) (a2 : Int32)  : tt_C y_mo_could prog_7_method_61_code 2 (some .boolean) 0 0 G [.int a1, .int a2] st (some (.int (mo_could a1 a2))) st := by
  refine tt_enter (α := Int32) (mk := fun r => (some (.int r), st)) (T := (mo_could a1 a2)) (by decide +kernel) (Nat.le_of_ble_eq_true rfl) (fun κ hC hR => ?_)
  rw [mo_could]
  refine r_iload_n 1 hC d_mo_could_0 rfl ?_
  refine tt_ite (c := a2 = 0) (fun c_1_0 => ?_) (fun c_1_0 => ?_)
  ·
    refine r_tabIn (tgt := 28) (off := 27) hC d_mo_could_1 (by rw [c_1_0]; decide) (by rw [c_1_0]; decide) (by rw [c_1_0]; decide) (by decide) ?_
    refine r_iload_n 0 hC d_mo_could_28 rfl ?_
    refine r_iconst (v := 1) hC d_mo_could_29 (by decide) ?_
    refine r_icmp_eq (tgt := 38) hC d_mo_could_30 (by decide) (fun c_30 => ?_) (fun c_30 => ?_)
    ·
      refine r_iconst (v := 1) hC d_mo_could_38 (by decide) ?_
      refine r_goto (tgt := 43) hC d_mo_could_39 (by decide) ?_
      exact r_iret hC hR d_mo_could_43 rfl rfl
    ·
      refine r_iload_n 0 hC d_mo_could_33 rfl ?_
      refine r_iconst (v := 2) hC d_mo_could_34 (by decide) ?_
      refine r_icmp_ne (tgt := 42) hC d_mo_could_35 (by decide) (fun c_35 => ?_) (fun c_35 => ?_)
      ·
        refine r_iconst (v := 0) hC d_mo_could_42 (by decide) ?_
        exact r_iret hC hR d_mo_could_43 rfl rfl
      ·
        refine r_iconst (v := 1) hC d_mo_could_38 (by decide) ?_
        refine r_goto (tgt := 43) hC d_mo_could_39 (by decide) ?_
        exact r_iret hC hR d_mo_could_43 rfl rfl
  ·
    refine tt_ite (c := a2 = 1) (fun c_1_1 => ?_) (fun c_1_1 => ?_)
    ·
      refine r_tabIn (tgt := 44) (off := 43) hC d_mo_could_1 (by rw [c_1_1]; decide) (by rw [c_1_1]; decide) (by rw [c_1_1]; decide) (by decide) ?_
      refine r_iload_n 0 hC d_mo_could_44 rfl ?_
      refine r_iconst (v := 2) hC d_mo_could_45 (by decide) ?_
      refine r_icmp_ne (tgt := 53) hC d_mo_could_46 (by decide) (fun c_46 => ?_) (fun c_46 => ?_)
      ·
        refine r_iconst (v := 0) hC d_mo_could_53 (by decide) ?_
        exact r_iret hC hR d_mo_could_54 rfl rfl
      ·
        refine r_iconst (v := 1) hC d_mo_could_49 (by decide) ?_
        refine r_goto (tgt := 54) hC d_mo_could_50 (by decide) ?_
        exact r_iret hC hR d_mo_could_54 rfl rfl
    ·
      refine tt_ite (c := a2 = 2) (fun c_1_2 => ?_) (fun c_1_2 => ?_)
      ·
        refine r_tabIn (tgt := 55) (off := 54) hC d_mo_could_1 (by rw [c_1_2]; decide) (by rw [c_1_2]; decide) (by rw [c_1_2]; decide) (by decide) ?_
        refine r_iload_n 0 hC d_mo_could_55 rfl ?_
        refine r_iconst (v := 3) hC d_mo_could_56 (by decide) ?_
        refine r_icmp_ne (tgt := 64) hC d_mo_could_57 (by decide) (fun c_57 => ?_) (fun c_57 => ?_)
        ·
          refine r_iconst (v := 0) hC d_mo_could_64 (by decide) ?_
          exact r_iret hC hR d_mo_could_65 rfl rfl
        ·
          refine r_iconst (v := 1) hC d_mo_could_60 (by decide) ?_
          refine r_goto (tgt := 65) hC d_mo_could_61 (by decide) ?_
          exact r_iret hC hR d_mo_could_65 rfl rfl
      ·
        have nc_1_0 := lv_neT (a := 0) c_1_0 (by decide)
        have nc_1_1 := lv_neT (a := 1) c_1_1 (by decide)
        have nc_1_2 := lv_neT (a := 2) c_1_2 (by decide)
        refine r_tabOut (tgt := 66) hC d_mo_could_1 (by omega) (by decide) ?_
        refine r_iload_n 0 hC d_mo_could_66 rfl ?_
        refine r_iconst (v := 4) hC d_mo_could_67 (by decide) ?_
        refine r_icmp_ne (tgt := 75) hC d_mo_could_68 (by decide) (fun c_68 => ?_) (fun c_68 => ?_)
        ·
          refine r_iconst (v := 0) hC d_mo_could_75 (by decide) ?_
          exact r_iret hC hR d_mo_could_76 rfl rfl
        ·
          refine r_iconst (v := 1) hC d_mo_could_71 (by decide) ?_
          refine r_goto (tgt := 76) hC d_mo_could_72 (by decide) ?_
          exact r_iret hC hR d_mo_could_76 rfl rfl
/-! TideTableModel.tickBy(I)I -/
def mo_tickBy (a1 : Int32) : Int32 := (if a1 = 0 then 0 else (if a1 = 1 then 7 else (if a1 = 2 then 50 else (if a1 = 3 then 144 else (if a1 = 4 then 400 else 1439)))))
set_option maxHeartbeats 4000000 in
set_option maxRecDepth 20000 in
theorem c_mo_tickBy (G : tt_G) (st : tt_St) (a1 : Int32)  : tt_C y_mo_tickBy prog_7_method_76_code 1 (some .int) 0 0 G [.int a1] st (some (.int (mo_tickBy a1))) st := by
  refine tt_enter (α := Int32) (mk := fun r => (some (.int r), st)) (T := (mo_tickBy a1)) (by decide +kernel) (Nat.le_of_ble_eq_true rfl) (fun κ hC hR => ?_)
  rw [mo_tickBy]
  refine r_iload_n 0 hC d_mo_tickBy_0 rfl ?_
  refine tt_ite (c := a1 = 0) (fun c_1_0 => ?_) (fun c_1_0 => ?_)
  ·
    refine r_tabIn (tgt := 36) (off := 35) hC d_mo_tickBy_1 (by rw [c_1_0]; decide) (by rw [c_1_0]; decide) (by rw [c_1_0]; decide) (by decide) ?_
    refine r_iconst (v := 0) hC d_mo_tickBy_36 (by decide) ?_
    exact r_iret hC hR d_mo_tickBy_37 rfl rfl
  ·
    refine tt_ite (c := a1 = 1) (fun c_1_1 => ?_) (fun c_1_1 => ?_)
    ·
      refine r_tabIn (tgt := 38) (off := 37) hC d_mo_tickBy_1 (by rw [c_1_1]; decide) (by rw [c_1_1]; decide) (by rw [c_1_1]; decide) (by decide) ?_
      refine r_bipush (v := 7) hC d_mo_tickBy_38 (by decide) ?_
      exact r_iret hC hR d_mo_tickBy_40 rfl rfl
    ·
      refine tt_ite (c := a1 = 2) (fun c_1_2 => ?_) (fun c_1_2 => ?_)
      ·
        refine r_tabIn (tgt := 41) (off := 40) hC d_mo_tickBy_1 (by rw [c_1_2]; decide) (by rw [c_1_2]; decide) (by rw [c_1_2]; decide) (by decide) ?_
        refine r_bipush (v := 50) hC d_mo_tickBy_41 (by decide) ?_
        exact r_iret hC hR d_mo_tickBy_43 rfl rfl
      ·
        refine tt_ite (c := a1 = 3) (fun c_1_3 => ?_) (fun c_1_3 => ?_)
        ·
          refine r_tabIn (tgt := 44) (off := 43) hC d_mo_tickBy_1 (by rw [c_1_3]; decide) (by rw [c_1_3]; decide) (by rw [c_1_3]; decide) (by decide) ?_
          refine r_sipush (v := 144) hC d_mo_tickBy_44 (by decide) ?_
          exact r_iret hC hR d_mo_tickBy_47 rfl rfl
        ·
          refine tt_ite (c := a1 = 4) (fun c_1_4 => ?_) (fun c_1_4 => ?_)
          ·
            refine r_tabIn (tgt := 48) (off := 47) hC d_mo_tickBy_1 (by rw [c_1_4]; decide) (by rw [c_1_4]; decide) (by rw [c_1_4]; decide) (by decide) ?_
            refine r_sipush (v := 400) hC d_mo_tickBy_48 (by decide) ?_
            exact r_iret hC hR d_mo_tickBy_51 rfl rfl
          ·
            have nc_1_0 := lv_neT (a := 0) c_1_0 (by decide)
            have nc_1_1 := lv_neT (a := 1) c_1_1 (by decide)
            have nc_1_2 := lv_neT (a := 2) c_1_2 (by decide)
            have nc_1_3 := lv_neT (a := 3) c_1_3 (by decide)
            have nc_1_4 := lv_neT (a := 4) c_1_4 (by decide)
            refine r_tabOut (tgt := 52) hC d_mo_tickBy_1 (by omega) (by decide) ?_
            refine r_sipush (v := 1439) hC d_mo_tickBy_52 (by decide) ?_
            exact r_iret hC hR d_mo_tickBy_55 rfl rfl
/-! TideTableModel.size(I)I -/
def mo_size_l4 (a1 : Int32) : Nat → Nat → Int32 → Int32
  | 0, j, x1 => x1
  | n + 1, j, x1 => (mo_size_l4 a1 n (j + 1) (x1 + ((a1 >>> ((nI j) &&& 31)) &&& 1)))
set_option maxHeartbeats 4000000 in
set_option maxRecDepth 20000 in
theorem l_mo_size_4 {α : Type} {G : tt_G} {κ : tt_X α} {T : α} (hC : tt_Cx G κ prog_7_method_6_code "TideTableModel" 3 0 0) (a1 : Int32) (st : tt_St)  : ∀ (n j : Nat) (x1 : Int32), j + n = 16 → tt_V G κ T st 24 [(1, .int (mo_size_l4 a1 n j x1))] [] → tt_V G κ T st 4 [(0, .int a1), (1, .int x1), (2, .int (nI j))] [] := by
  intro n
  induction n with
  | zero =>
    intro j x1 hj k
    refine r_iload_n 2 hC d_mo_size_4 rfl ?_
    refine r_bipush (v := 16) hC d_mo_size_5 (by decide) ?_
    refine t_icmp_ge (tgt := 24) hC d_mo_size_7 (by decide) (nI_le (a := 16) (by omega) (by omega)) ?_
    exact tt_cast [1] rfl rfl k
  | succ n ih =>
    intro j x1 hj k
    refine r_iload_n 2 hC d_mo_size_4 rfl ?_
    refine r_bipush (v := 16) hC d_mo_size_5 (by decide) ?_
    refine f_icmp_ge (tgt := 24) hC d_mo_size_7 (by decide) (nI_ge (a := j) (b := 16) (by omega) (by omega)) ?_
    refine r_iload_n 1 hC d_mo_size_10 rfl ?_
    refine r_iload_n 0 hC d_mo_size_11 rfl ?_
    refine r_iload_n 2 hC d_mo_size_12 rfl ?_
    refine r_ishr hC d_mo_size_13 ?_
    refine r_iconst (v := 1) hC d_mo_size_14 (by decide) ?_
    refine r_iand hC d_mo_size_15 ?_
    refine r_iadd hC d_mo_size_16 ?_
    refine r_istore_n [(1, .int (x1 + ((a1 >>> ((nI j) &&& 31)) &&& 1))), (0, .int a1), (2, .int (nI j))] hC d_mo_size_17 rfl (by decide) rfl ?_
    refine r_iinc 2 (nI (j + 1)) [(2, .int (nI (j + 1))), (1, .int (x1 + ((a1 >>> ((nI j) &&& 31)) &&& 1))), (0, .int a1)] hC d_mo_size_18 rfl (by rw [nI_succ]; rfl) (by decide) rfl ?_
    refine r_goto (tgt := 4) hC d_mo_size_21 (by decide) ?_
    exact tt_cast [2, 1, 0] rfl rfl (ih (j + 1) (x1 + ((a1 >>> ((nI j) &&& 31)) &&& 1)) (by omega) (by simpa only [mo_size_l4] using k))
def mo_size (a1 : Int32) : Int32 := (mo_size_l4 a1 16 0 0)
set_option maxHeartbeats 4000000 in
set_option maxRecDepth 20000 in
theorem c_mo_size (G : tt_G) (st : tt_St) (a1 : Int32)  : tt_C y_mo_size prog_7_method_6_code 3 (some .int) 0 0 G [.int a1] st (some (.int (mo_size a1))) st := by
  refine tt_enter (α := Int32) (mk := fun r => (some (.int r), st)) (T := (mo_size a1)) (by decide +kernel) (Nat.le_of_ble_eq_true rfl) (fun κ hC hR => ?_)
  rw [mo_size]
  refine r_iconst (v := 0) hC d_mo_size_0 (by decide) ?_
  refine r_istore_n [(1, .int 0), (0, .int a1)] hC d_mo_size_1 rfl (by decide) rfl ?_
  refine r_iconst (v := 0) hC d_mo_size_2 (by decide) ?_
  refine r_istore_n [(2, .int 0), (1, .int 0), (0, .int a1)] hC d_mo_size_3 rfl (by decide) rfl ?_
  refine tt_cast [2, 1, 0] rfl rfl (l_mo_size_4 hC a1 st  16 0 0 (by omega)  ?_)
  refine r_iload_n 0 hC d_mo_size_24 rfl ?_
  exact r_iret hC hR d_mo_size_25 rfl rfl
end
section
theorem mo_within_b (a b c : Int32) : mo_within a b c = 0 ∨ mo_within a b c = 1 := by
  unfold mo_within
  exact tt_bool (Or.inl rfl) (tt_bool (Or.inl rfl) (Or.inr rfl))
theorem mo_within_1 {a b c : Int32} : ¬ mo_within a b c = 0 ↔ b.toInt ≤ a.toInt ∧ a.toInt ≤ c.toInt := by
  unfold mo_within
  by_cases h1 : a < b
  · rw [if_pos h1]; rw [tt_lt] at h1; constructor
    · intro h; exact absurd rfl h
    · intro h; omega
  · rw [if_neg h1]; rw [tt_lt] at h1
    by_cases h2 : c < a
    · rw [if_pos h2]; rw [tt_lt] at h2; constructor
      · intro h; exact absurd rfl h
      · intro h; omega
    · rw [if_neg h2]; rw [tt_lt] at h2; constructor
      · intro _; omega
      · intro _; decide
theorem mo_could_b (a b : Int32) : mo_could a b = 0 ∨ mo_could a b = 1 := by
  unfold mo_could
  repeat (first | exact Or.inl rfl | exact Or.inr rfl | refine tt_bool ?_ ?_)
theorem mo_isIn_b (a b : Int32) : mo_isIn a b = 0 ∨ mo_isIn a b = 1 := by
  unfold mo_isIn
  exact tt_bool (by first | exact Or.inl rfl | exact Or.inr rfl) (by first | exact Or.inl rfl | exact Or.inr rfl)
/-- what the reference's numbers keep to -/
def mo_ok (st : tt_St) : Prop := (0 ≤ (tt_I st 49 1).toInt ∧ (tt_I st 49 1).toInt ≤ 4) ∧ (0 ≤ (tt_I st 49 9).toInt ∧ (tt_I st 49 9).toInt ≤ 6) ∧ (0 ≤ (tt_I st 49 13).toInt ∧ (tt_I st 49 13).toInt ≤ 96) ∧ (∀ p, p < 4 → 0 ≤ (tt_A st 54 p).toInt ∧ (tt_A st 54 p).toInt ≤ 3)
def mo_pl (st : tt_St) : Prop := 0 ≤ (tt_I st 49 13).toInt ∧ (tt_I st 49 13).toInt ≤ 96
theorem mo_within_in {a c : Int32} {n : Nat} (hc : c.toInt < n) (h : ¬ mo_within a 0 c = 0) : vp_in a n := by
  have h1 := mo_within_1.mp h
  have h0 : (0 : Int32).toInt = 0 := rfl
  exact tt_in (by omega) (by omega)
theorem mo_at_in {st : tt_St} {k : Int32} (hl : mo_pl st) (hk : 0 ≤ k.toInt) (h : ¬ tt_I st 49 13 ≤ k) : vp_in k 96 := by
  rw [tt_le] at h
  have := hl.2
  exact tt_in hk (by omega)
end
section
/-! TideTableModel.isNumber(I)Z -/
def mo_isNumber (a1 : Int32) : Int32 := (mo_within a1 0 99)
set_option maxHeartbeats 4000000 in
set_option maxRecDepth 20000 in
theorem c_mo_isNumber (G : tt_G) (st : tt_St) (a1 : Int32)  : tt_C y_mo_isNumber prog_7_method_21_code 1 (some .boolean) 1 22 G [.int a1] st (some (.int (mo_isNumber a1))) st := by
  refine tt_enter (α := Int32) (mk := fun r => (some (.int r), st)) (T := (mo_isNumber a1)) (by decide +kernel) (Nat.le_of_ble_eq_true rfl) (fun κ hC hR => ?_)
  rw [mo_isNumber]
  refine r_iload_n 0 hC d_mo_isNumber_0 rfl ?_
  refine r_iconst (v := 0) hC d_mo_isNumber_1 (by decide) ?_
  refine r_bipush (v := 99) hC d_mo_isNumber_2 (by decide) ?_
  refine r_callS (rest := []) (stk1 := [.int (mo_within a1 0 99)]) hC d_mo_isNumber_4 (c_mo_within G st a1 0 99) mw_mo_within ms_mo_within ml_mo_93 rfl rfl rfl (Nat.le_of_ble_eq_true rfl) rfl ?_
  exact r_iret hC hR d_mo_isNumber_7 (tt_nb (mo_within_b _ _ _)) rfl
/-! TideTableModel.isTick(I)Z -/
def mo_isTick (a1 : Int32) : Int32 := (mo_within a1 0 1439)
set_option maxHeartbeats 4000000 in
set_option maxRecDepth 20000 in
theorem c_mo_isTick (G : tt_G) (st : tt_St) (a1 : Int32)  : tt_C y_mo_isTick prog_7_method_33_code 1 (some .boolean) 1 22 G [.int a1] st (some (.int (mo_isTick a1))) st := by
  refine tt_enter (α := Int32) (mk := fun r => (some (.int r), st)) (T := (mo_isTick a1)) (by decide +kernel) (Nat.le_of_ble_eq_true rfl) (fun κ hC hR => ?_)
  rw [mo_isTick]
  refine r_iload_n 0 hC d_mo_isTick_0 rfl ?_
  refine r_iconst (v := 0) hC d_mo_isTick_1 (by decide) ?_
  refine r_sipush (v := 1439) hC d_mo_isTick_2 (by decide) ?_
  refine r_callS (rest := []) (stk1 := [.int (mo_within a1 0 1439)]) hC d_mo_isTick_5 (c_mo_within G st a1 0 1439) mw_mo_within ms_mo_within ml_mo_93 rfl rfl rfl (Nat.le_of_ble_eq_true rfl) rfl ?_
  exact r_iret hC hR d_mo_isTick_8 (tt_nb (mo_within_b _ _ _)) rfl
/-! TideTableModel.isDay(I)Z -/
def mo_isDay (a1 : Int32) : Int32 := (mo_within a1 0 9)
set_option maxHeartbeats 4000000 in
set_option maxRecDepth 20000 in
theorem c_mo_isDay (G : tt_G) (st : tt_St) (a1 : Int32)  : tt_C y_mo_isDay prog_7_method_38_code 1 (some .boolean) 1 22 G [.int a1] st (some (.int (mo_isDay a1))) st := by
  refine tt_enter (α := Int32) (mk := fun r => (some (.int r), st)) (T := (mo_isDay a1)) (by decide +kernel) (Nat.le_of_ble_eq_true rfl) (fun κ hC hR => ?_)
  rw [mo_isDay]
  refine r_iload_n 0 hC d_mo_isDay_0 rfl ?_
  refine r_iconst (v := 0) hC d_mo_isDay_1 (by decide) ?_
  refine r_bipush (v := 9) hC d_mo_isDay_2 (by decide) ?_
  refine r_callS (rest := []) (stk1 := [.int (mo_within a1 0 9)]) hC d_mo_isDay_4 (c_mo_within G st a1 0 9) mw_mo_within ms_mo_within ml_mo_93 rfl rfl rfl (Nat.le_of_ble_eq_true rfl) rfl ?_
  exact r_iret hC hR d_mo_isDay_7 (tt_nb (mo_within_b _ _ _)) rfl
/-! TideTableModel.isNeed(I)Z -/
def mo_isNeed (a1 : Int32) : Int32 := (mo_within a1 (-2000) 4000)
set_option maxHeartbeats 4000000 in
set_option maxRecDepth 20000 in
theorem c_mo_isNeed (G : tt_G) (st : tt_St) (a1 : Int32)  : tt_C y_mo_isNeed prog_7_method_39_code 1 (some .boolean) 1 22 G [.int a1] st (some (.int (mo_isNeed a1))) st := by
  refine tt_enter (α := Int32) (mk := fun r => (some (.int r), st)) (T := (mo_isNeed a1)) (by decide +kernel) (Nat.le_of_ble_eq_true rfl) (fun κ hC hR => ?_)
  rw [mo_isNeed]
  refine r_iload_n 0 hC d_mo_isNeed_0 rfl ?_
  refine r_sipush (v := (-2000)) hC d_mo_isNeed_1 (by decide) ?_
  refine r_sipush (v := 4000) hC d_mo_isNeed_4 (by decide) ?_
  refine r_callS (rest := []) (stk1 := [.int (mo_within a1 (-2000) 4000)]) hC d_mo_isNeed_7 (c_mo_within G st a1 (-2000) 4000) mw_mo_within ms_mo_within ml_mo_93 rfl rfl rfl (Nat.le_of_ble_eq_true rfl) rfl ?_
  exact r_iret hC hR d_mo_isNeed_10 (tt_nb (mo_within_b _ _ _)) rfl
/-! TideTableModel.isPace(I)Z -/
def mo_isPace (a1 : Int32) : Int32 := (mo_within a1 1 30)
set_option maxHeartbeats 4000000 in
set_option maxRecDepth 20000 in
theorem c_mo_isPace (G : tt_G) (st : tt_St) (a1 : Int32)  : tt_C y_mo_isPace prog_7_method_51_code 1 (some .boolean) 1 22 G [.int a1] st (some (.int (mo_isPace a1))) st := by
  refine tt_enter (α := Int32) (mk := fun r => (some (.int r), st)) (T := (mo_isPace a1)) (by decide +kernel) (Nat.le_of_ble_eq_true rfl) (fun κ hC hR => ?_)
  rw [mo_isPace]
  refine r_iload_n 0 hC d_mo_isPace_0 rfl ?_
  refine r_iconst (v := 1) hC d_mo_isPace_1 (by decide) ?_
  refine r_bipush (v := 30) hC d_mo_isPace_2 (by decide) ?_
  refine r_callS (rest := []) (stk1 := [.int (mo_within a1 1 30)]) hC d_mo_isPace_4 (c_mo_within G st a1 1 30) mw_mo_within ms_mo_within ml_mo_93 rfl rfl rfl (Nat.le_of_ble_eq_true rfl) rfl ?_
  exact r_iret hC hR d_mo_isPace_7 (tt_nb (mo_within_b _ _ _)) rfl
/-! TideTableModel.at(I)I -/
def mo_at (st : tt_St) (a1 : Int32) : Int32 := (if (tt_I st 49 13) ≤ a1 then 0 else (tt_A st 60 (Int32.toNatClampNeg a1)))
set_option maxHeartbeats 4000000 in
set_option maxRecDepth 20000 in
theorem c_mo_at (G : tt_G) (st : tt_St) (a1 : Int32) (hl : mo_pl st) (hk : 0 ≤ a1.toInt) : tt_C y_mo_at prog_7_method_11_code 2 (some .int) 0 0 G [.ref (tt_ad G 49), .int a1] st (some (.int (mo_at st a1))) st := by
  refine tt_enter (α := Int32) (mk := fun r => (some (.int r), st)) (T := (mo_at st a1)) (by decide +kernel) (Nat.le_of_ble_eq_true rfl) (fun κ hC hR => ?_)
  rw [mo_at]
  refine r_iload_n 1 hC d_mo_at_0 rfl ?_
  refine r_aload_n 0 hC d_mo_at_1 rfl ?_
  refine r_getI hC d_mo_at_2 fl_mo_97 rfl rfl ?_
  refine r_icmp_ge (tgt := 17) hC d_mo_at_5 (by decide) (fun c_5 => ?_) (fun c_5 => ?_)
  ·
    refine r_iconst (v := 0) hC d_mo_at_17 (by decide) ?_
    exact r_iret hC hR d_mo_at_18 rfl rfl
  ·
    refine r_aload_n 0 hC d_mo_at_8 rfl ?_
    refine r_getR (r := 60) hC d_mo_at_9 fl_mo_40 rfl rfl rfl ?_
    refine r_iload_n 1 hC d_mo_at_12 rfl ?_
    refine r_bald hC d_mo_at_13 rfl (by decide) rfl rfl (mo_at_in hl hk c_5) ?_
    refine r_goto (tgt := 18) hC d_mo_at_14 (by decide) ?_
    exact r_iret hC hR d_mo_at_18 rfl rfl
/-! TideTableModel.isFigure(I)Z -/
def mo_isFigure (st : tt_St) (a1 : Int32) : Int32 := (mo_within ((mo_at st a1) - 48) 0 9)
set_option maxHeartbeats 4000000 in
set_option maxRecDepth 20000 in
theorem c_mo_isFigure (G : tt_G) (st : tt_St) (a1 : Int32) (hl : mo_pl st) (hk : 0 ≤ a1.toInt) : tt_C y_mo_isFigure prog_7_method_12_code 2 (some .boolean) 1 22 G [.ref (tt_ad G 49), .int a1] st (some (.int (mo_isFigure st a1))) st := by
  refine tt_enter (α := Int32) (mk := fun r => (some (.int r), st)) (T := (mo_isFigure st a1)) (by decide +kernel) (Nat.le_of_ble_eq_true rfl) (fun κ hC hR => ?_)
  rw [mo_isFigure]
  refine r_aload_n 0 hC d_mo_isFigure_0 rfl ?_
  refine r_iload_n 1 hC d_mo_isFigure_1 rfl ?_
  refine r_callV (o := 49) (rest := []) (stk1 := [.int (mo_at st a1)]) hC d_mo_isFigure_2 (c_mo_at G st a1 hl hk) mw_mo_at mi_mo_at mz_mo_at ml_mo_101 rfl rfl rfl rfl rfl (Nat.le_of_ble_eq_true rfl) rfl ?_
  refine r_bipush (v := 48) hC d_mo_isFigure_5 (by decide) ?_
  refine r_isub hC d_mo_isFigure_7 ?_
  refine r_iconst (v := 0) hC d_mo_isFigure_8 (by decide) ?_
  refine r_bipush (v := 9) hC d_mo_isFigure_9 (by decide) ?_
  refine r_callS (rest := []) (stk1 := [.int (mo_within ((mo_at st a1) - 48) 0 9)]) hC d_mo_isFigure_11 (c_mo_within G st ((mo_at st a1) - 48) 0 9) mw_mo_within ms_mo_within ml_mo_93 rfl rfl rfl (Nat.le_of_ble_eq_true rfl) rfl ?_
  exact r_iret hC hR d_mo_isFigure_14 (tt_nb (mo_within_b _ _ _)) rfl
/-! TideTableModel.isPort(I)Z -/
def mo_isPort (st : tt_St) (a1 : Int32) : Int32 := (mo_within a1 0 ((tt_I st 49 1) - 1))
set_option maxHeartbeats 4000000 in
set_option maxRecDepth 20000 in
theorem c_mo_isPort (G : tt_G) (st : tt_St) (a1 : Int32)  : tt_C y_mo_isPort prog_7_method_19_code 2 (some .boolean) 1 22 G [.ref (tt_ad G 49), .int a1] st (some (.int (mo_isPort st a1))) st := by
  refine tt_enter (α := Int32) (mk := fun r => (some (.int r), st)) (T := (mo_isPort st a1)) (by decide +kernel) (Nat.le_of_ble_eq_true rfl) (fun κ hC hR => ?_)
  rw [mo_isPort]
  refine r_iload_n 1 hC d_mo_isPort_0 rfl ?_
  refine r_iconst (v := 0) hC d_mo_isPort_1 (by decide) ?_
  refine r_aload_n 0 hC d_mo_isPort_2 rfl ?_
  refine r_getI hC d_mo_isPort_3 fl_mo_138 rfl rfl ?_
  refine r_iconst (v := 1) hC d_mo_isPort_6 (by decide) ?_
  refine r_isub hC d_mo_isPort_7 ?_
  refine r_callS (rest := []) (stk1 := [.int (mo_within a1 0 ((tt_I st 49 1) - 1))]) hC d_mo_isPort_8 (c_mo_within G st a1 0 ((tt_I st 49 1) - 1)) mw_mo_within ms_mo_within ml_mo_93 rfl rfl rfl (Nat.le_of_ble_eq_true rfl) rfl ?_
  exact r_iret hC hR d_mo_isPort_11 (tt_nb (mo_within_b _ _ _)) rfl
/-! TideTableModel.waveNow(III)I -/
def mo_waveNow (st : tt_St) (a1 : Int32) (a2 : Int32) (a3 : Int32) : Int32 := (tt_A st 55 (Int32.toNatClampNeg (((9 * a1) + (3 * a2)) + a3)))
set_option maxHeartbeats 4000000 in
set_option maxRecDepth 20000 in
theorem c_mo_waveNow (G : tt_G) (st : tt_St) (a1 : Int32) (a2 : Int32) (a3 : Int32) (hp : vp_in a1 4) (hw : vp_in a2 3) (hq : vp_in a3 3) : tt_C y_mo_waveNow prog_7_method_24_code 4 (some .int) 0 0 G [.ref (tt_ad G 49), .int a1, .int a2, .int a3] st (some (.int (mo_waveNow st a1 a2 a3))) st := by
  refine tt_enter (α := Int32) (mk := fun r => (some (.int r), st)) (T := (mo_waveNow st a1 a2 a3)) (by decide +kernel) (Nat.le_of_ble_eq_true rfl) (fun κ hC hR => ?_)
  rw [mo_waveNow]
  refine r_aload_n 0 hC d_mo_waveNow_0 rfl ?_
  refine r_getR (r := 55) hC d_mo_waveNow_1 fl_mo_25 rfl rfl rfl ?_
  refine r_bipush (v := 9) hC d_mo_waveNow_4 (by decide) ?_
  refine r_iload_n 1 hC d_mo_waveNow_6 rfl ?_
  refine r_imul hC d_mo_waveNow_7 ?_
  refine r_iconst (v := 3) hC d_mo_waveNow_8 (by decide) ?_
  refine r_iload_n 2 hC d_mo_waveNow_9 rfl ?_
  refine r_imul hC d_mo_waveNow_10 ?_
  refine r_iadd hC d_mo_waveNow_11 ?_
  refine r_iload_n 3 hC d_mo_waveNow_12 rfl ?_
  refine r_iadd hC d_mo_waveNow_13 ?_
  refine r_iald hC d_mo_waveNow_14 rfl (by decide) rfl rfl (tt_ix3 hp hw hq) ?_
  exact r_iret hC hR d_mo_waveNow_15 rfl rfl
/-! TideTableModel.round(I)I -/
def mo_round (st : tt_St) (a1 : Int32) : Int32 := (if (mo_within a1 0 64) = 0 then (-10102) else (tt_A st 56 (Int32.toNatClampNeg a1)))
set_option maxHeartbeats 4000000 in
set_option maxRecDepth 20000 in
theorem c_mo_round (G : tt_G) (st : tt_St) (a1 : Int32)  : tt_C y_mo_round prog_7_method_27_code 2 (some .int) 1 22 G [.ref (tt_ad G 49), .int a1] st (some (.int (mo_round st a1))) st := by
  refine tt_enter (α := Int32) (mk := fun r => (some (.int r), st)) (T := (mo_round st a1)) (by decide +kernel) (Nat.le_of_ble_eq_true rfl) (fun κ hC hR => ?_)
  rw [mo_round]
  refine r_iload_n 1 hC d_mo_round_0 rfl ?_
  refine r_iconst (v := 0) hC d_mo_round_1 (by decide) ?_
  refine r_bipush (v := 64) hC d_mo_round_2 (by decide) ?_
  refine r_callS (rest := []) (stk1 := [.int (mo_within a1 0 64)]) hC d_mo_round_4 (c_mo_within G st a1 0 64) mw_mo_within ms_mo_within ml_mo_93 rfl rfl rfl (Nat.le_of_ble_eq_true rfl) rfl ?_
  refine r_if_eq (tgt := 19) hC d_mo_round_7 (by decide) (fun c_7 => ?_) (fun c_7 => ?_)
  ·
    refine r_sipush (v := (-10102)) hC d_mo_round_19 (by decide) ?_
    exact r_iret hC hR d_mo_round_22 rfl rfl
  ·
    refine r_aload_n 0 hC d_mo_round_10 rfl ?_
    refine r_getR (r := 56) hC d_mo_round_11 fl_mo_28 rfl rfl rfl ?_
    refine r_iload_n 1 hC d_mo_round_14 rfl ?_
    refine r_iald hC d_mo_round_15 rfl (by decide) rfl rfl (mo_within_in (by decide) c_7) ?_
    refine r_goto (tgt := 22) hC d_mo_round_16 (by decide) ?_
    exact r_iret hC hR d_mo_round_22 rfl rfl
end
section
theorem mo_isPort_in {st : tt_St} {a : Int32} (hI : mo_ok st) (h : ¬ mo_isPort st a = 0) : vp_in a 4 := by
  have h1 := mo_within_1.mp h
  have h0 : (0 : Int32).toInt = 0 := rfl
  have h2 : (tt_I st 49 1 - 1).toInt = (tt_I st 49 1).toInt - 1 := by
    have e : (1 : Int32).toInt = 1 := rfl
    have := hI.1
    rw [tt_sub] <;> rw [e] <;> omega
  have := hI.1
  exact tt_in (by omega) (by omega)
theorem mo_isDay_in {a : Int32} (h : ¬ mo_isDay a = 0) : vp_in a 10 := mo_within_in (by decide) h
theorem mo_isTick_in {a : Int32} (h : ¬ mo_isTick a = 0) : vp_in a 1440 := mo_within_in (by decide) h
end
section
/-! TideTableModel.isWave(II)Z -/
def mo_isWave (st : tt_St) (a1 : Int32) (a2 : Int32) : Int32 := (if (mo_isPort st a1) = 0 then 0 else (if (mo_within a2 0 ((tt_A st 54 (Int32.toNatClampNeg a1)) - 1)) = 0 then 0 else 1))
set_option maxHeartbeats 4000000 in
set_option maxRecDepth 20000 in
theorem c_mo_isWave (G : tt_G) (st : tt_St) (a1 : Int32) (a2 : Int32) (hI : mo_ok st) : tt_C y_mo_isWave prog_7_method_20_code 3 (some .boolean) 2 43 G [.ref (tt_ad G 49), .int a1, .int a2] st (some (.int (mo_isWave st a1 a2))) st := by
  refine tt_enter (α := Int32) (mk := fun r => (some (.int r), st)) (T := (mo_isWave st a1 a2)) (by decide +kernel) (Nat.le_of_ble_eq_true rfl) (fun κ hC hR => ?_)
  rw [mo_isWave]
  refine r_aload_n 0 hC d_mo_isWave_0 rfl ?_
  refine r_iload_n 1 hC d_mo_isWave_1 rfl ?_
  refine r_callV (o := 49) (rest := []) (stk1 := [.int (mo_isPort st a1)]) hC d_mo_isWave_2 (c_mo_isPort G st a1) mw_mo_isPort mi_mo_isPort mz_mo_isPort ml_mo_147 rfl rfl rfl rfl rfl (Nat.le_of_ble_eq_true rfl) rfl ?_
  refine r_if_eq (tgt := 28) hC d_mo_isWave_5 (by decide) (fun c_5 => ?_) (fun c_5 => ?_)
  ·
    refine r_iconst (v := 0) hC d_mo_isWave_28 (by decide) ?_
    exact r_iret hC hR d_mo_isWave_29 rfl rfl
  ·
    refine r_iload_n 2 hC d_mo_isWave_8 rfl ?_
    refine r_iconst (v := 0) hC d_mo_isWave_9 (by decide) ?_
    refine r_aload_n 0 hC d_mo_isWave_10 rfl ?_
    refine r_getR (r := 54) hC d_mo_isWave_11 fl_mo_22 rfl rfl rfl ?_
    refine r_iload_n 1 hC d_mo_isWave_14 rfl ?_
    refine r_iald hC d_mo_isWave_15 rfl (by decide) rfl rfl (mo_isPort_in hI c_5) ?_
    refine r_iconst (v := 1) hC d_mo_isWave_16 (by decide) ?_
    refine r_isub hC d_mo_isWave_17 ?_
    refine r_callS (rest := []) (stk1 := [.int (mo_within a2 0 ((tt_A st 54 (Int32.toNatClampNeg a1)) - 1))]) hC d_mo_isWave_18 (c_mo_within G st a2 0 ((tt_A st 54 (Int32.toNatClampNeg a1)) - 1)) mw_mo_within ms_mo_within ml_mo_93 rfl rfl rfl (Nat.le_of_ble_eq_true rfl) rfl ?_
    refine r_if_eq (tgt := 28) hC d_mo_isWave_21 (by decide) (fun c_21 => ?_) (fun c_21 => ?_)
    ·
      refine r_iconst (v := 0) hC d_mo_isWave_28 (by decide) ?_
      exact r_iret hC hR d_mo_isWave_29 rfl rfl
    ·
      refine r_iconst (v := 1) hC d_mo_isWave_24 (by decide) ?_
      refine r_goto (tgt := 29) hC d_mo_isWave_25 (by decide) ?_
      exact r_iret hC hR d_mo_isWave_29 rfl rfl
end
section
theorem mo_isWave_in {st : tt_St} {a b : Int32} (hI : mo_ok st) (h : ¬ mo_isWave st a b = 0) : vp_in a 4 ∧ vp_in b 3 := by
  unfold mo_isWave at h
  by_cases h1 : mo_isPort st a = 0
  · rw [if_pos h1] at h; exact absurd rfl h
  · rw [if_neg h1] at h
    have hp := mo_isPort_in hI h1
    refine ⟨hp, ?_⟩
    by_cases h2 : mo_within b 0 (tt_A st 54 a.toNatClampNeg - 1) = 0
    · rw [if_pos h2] at h; exact absurd rfl h
    · have h3 := mo_within_1.mp h2
      have h0 : (0 : Int32).toInt = 0 := rfl
      have hw := hI.2.2.2 _ (tt_inN hp)
      have h4 : (tt_A st 54 a.toNatClampNeg - 1).toInt = (tt_A st 54 a.toNatClampNeg).toInt - 1 := by
        have e : (1 : Int32).toInt = 1 := rfl
        rw [tt_sub] <;> rw [e] <;> omega
      exact tt_in (by omega) (by omega)
end
section
/-! TideTableModel.sortsOf(I)I -/
def mo_sortsOf_l15 (st : tt_St) (a1 : Int32) (x2 : Int32) (x3 : Int32) : Nat → Nat → Int32 → Int32
  | 0, j, x4 => x4
  | n + 1, j, x4 => (mo_sortsOf_l15 st a1 x2 x3 n (j + 1) (if x4 = 0 then 0 else (if (tt_A st 57 (Int32.toNatClampNeg (nI j))) = a1 then (if (mo_could x3 (tt_A st 58 (Int32.toNatClampNeg (nI j)))) = (if (tt_A st 59 (Int32.toNatClampNeg (nI j))) = 1 then 1 else 0) then 1 else 0) else 1)))
set_option maxHeartbeats 4000000 in
set_option maxRecDepth 20000 in
theorem l_mo_sortsOf_15 {α : Type} {G : tt_G} {κ : tt_X α} {T : α} (hC : tt_Cx G κ prog_7_method_64_code "TideTableModel" 6 1 21) (st : tt_St) (a1 : Int32) (x2 : Int32) (x3 : Int32) (hI : mo_ok st) (hN : (Int32.toNatClampNeg (tt_I st 49 9)) ≤ 6) : ∀ (n j : Nat) (x4 : Int32), j + n = (Int32.toNatClampNeg (tt_I st 49 9)) → tt_V G κ T st 83 [(0, .ref (tt_ad G 49)), (1, .int a1), (2, .int x2), (3, .int x3), (4, .int (mo_sortsOf_l15 st a1 x2 x3 n j x4))] [] → tt_V G κ T st 15 [(0, .ref (tt_ad G 49)), (1, .int a1), (2, .int x2), (3, .int x3), (4, .int x4), (5, .int (nI j))] [] := by
  intro n
  induction n with
  | zero =>
    intro j x4 hj k
    refine r_iload 5 hC d_mo_sortsOf_15 rfl ?_
    refine r_aload_n 0 hC d_mo_sortsOf_17 rfl ?_
    refine r_getI hC d_mo_sortsOf_18 fl_mo_144 rfl rfl ?_
    refine t_icmp_ge (tgt := 83) hC d_mo_sortsOf_21 (by decide) (tt_end hI.2.1.1 (by omega) (by omega)) ?_
    exact tt_cast [0, 1, 2, 3, 4] rfl rfl k
  | succ n ih =>
    intro j x4 hj k
    refine r_iload 5 hC d_mo_sortsOf_15 rfl ?_
    refine r_aload_n 0 hC d_mo_sortsOf_17 rfl ?_
    refine r_getI hC d_mo_sortsOf_18 fl_mo_144 rfl rfl ?_
    refine f_icmp_ge (tgt := 83) hC d_mo_sortsOf_21 (by decide) (tt_stay (by omega)) ?_
    refine r_iload 4 hC d_mo_sortsOf_24 rfl ?_
    refine tt_join 75 [(0, .ref (tt_ad G 49)), (1, .int a1), (2, .int x2), (3, .int x3), (5, .int (nI j))] [.int (if x4 = 0 then 0 else (if (tt_A st 57 (Int32.toNatClampNeg (nI j))) = a1 then (if (mo_could x3 (tt_A st 58 (Int32.toNatClampNeg (nI j)))) = (if (tt_A st 59 (Int32.toNatClampNeg (nI j))) = 1 then 1 else 0) then 1 else 0) else 1))] ?_ (fun kj_26 => ?_)
    ·
      refine r_istore [(4, .int (if x4 = 0 then 0 else (if (tt_A st 57 (Int32.toNatClampNeg (nI j))) = a1 then (if (mo_could x3 (tt_A st 58 (Int32.toNatClampNeg (nI j)))) = (if (tt_A st 59 (Int32.toNatClampNeg (nI j))) = 1 then 1 else 0) then 1 else 0) else 1))), (0, .ref (tt_ad G 49)), (1, .int a1), (2, .int x2), (3, .int x3), (5, .int (nI j))] hC d_mo_sortsOf_75 (by decide) rfl ?_
      refine r_iinc 5 (nI (j + 1)) [(5, .int (nI (j + 1))), (4, .int (if x4 = 0 then 0 else (if (tt_A st 57 (Int32.toNatClampNeg (nI j))) = a1 then (if (mo_could x3 (tt_A st 58 (Int32.toNatClampNeg (nI j)))) = (if (tt_A st 59 (Int32.toNatClampNeg (nI j))) = 1 then 1 else 0) then 1 else 0) else 1))), (0, .ref (tt_ad G 49)), (1, .int a1), (2, .int x2), (3, .int x3)] hC d_mo_sortsOf_77 rfl (by rw [nI_succ]; rfl) (by decide) rfl ?_
      refine r_goto (tgt := 15) hC d_mo_sortsOf_80 (by decide) ?_
      exact tt_cast [2, 3, 4, 5, 1, 0] rfl rfl (ih (j + 1) (if x4 = 0 then 0 else (if (tt_A st 57 (Int32.toNatClampNeg (nI j))) = a1 then (if (mo_could x3 (tt_A st 58 (Int32.toNatClampNeg (nI j)))) = (if (tt_A st 59 (Int32.toNatClampNeg (nI j))) = 1 then 1 else 0) then 1 else 0) else 1)) (by omega) (by simpa only [mo_sortsOf_l15] using k))
    ·
      refine j_if_eq (tgt := 74) hC d_mo_sortsOf_26 (by decide) (fun c_26 => ?_) (fun c_26 => ?_)
      ·
        refine r_iconst (v := 0) hC d_mo_sortsOf_74 (by decide) ?_
        exact tt_cast [0, 1, 2, 3, 5] rfl (by simp only [if_pos c_26]) kj_26
      ·
        refine r_aload_n 0 hC d_mo_sortsOf_29 rfl ?_
        refine r_getR (r := 57) hC d_mo_sortsOf_30 fl_mo_31 rfl rfl rfl ?_
        refine r_iload 5 hC d_mo_sortsOf_33 rfl ?_
        refine r_iald hC d_mo_sortsOf_35 rfl (by decide) rfl rfl (vp_in_nI (by omega) (by omega)) ?_
        refine r_iload_n 1 hC d_mo_sortsOf_36 rfl ?_
        refine tt_join 75 [(0, .ref (tt_ad G 49)), (1, .int a1), (2, .int x2), (3, .int x3), (5, .int (nI j))] [.int (if (tt_A st 57 (Int32.toNatClampNeg (nI j))) = a1 then (if (mo_could x3 (tt_A st 58 (Int32.toNatClampNeg (nI j)))) = (if (tt_A st 59 (Int32.toNatClampNeg (nI j))) = 1 then 1 else 0) then 1 else 0) else 1)] ?_ (fun kj_37 => ?_)
        ·
          exact tt_cast [0, 1, 2, 3, 4] rfl (by simp only [if_neg c_26]) kj_26
        ·
          refine j_icmp_ne (tgt := 70) hC d_mo_sortsOf_37 (by decide) (fun c_37 => ?_) (fun c_37 => ?_)
          ·
            refine r_iconst (v := 1) hC d_mo_sortsOf_70 (by decide) ?_
            refine r_goto (tgt := 75) hC d_mo_sortsOf_71 (by decide) ?_
            exact tt_cast [0, 1, 2, 3, 5] rfl (by simp only [if_neg c_37]) kj_37
          ·
            refine r_iload_n 3 hC d_mo_sortsOf_40 rfl ?_
            refine r_aload_n 0 hC d_mo_sortsOf_41 rfl ?_
            refine r_getR (r := 58) hC d_mo_sortsOf_42 fl_mo_34 rfl rfl rfl ?_
            refine r_iload 5 hC d_mo_sortsOf_45 rfl ?_
            refine r_iald hC d_mo_sortsOf_47 rfl (by decide) rfl rfl (vp_in_nI (by omega) (by omega)) ?_
            refine r_callS (rest := []) (stk1 := [.int (mo_could x3 (tt_A st 58 (Int32.toNatClampNeg (nI j))))]) hC d_mo_sortsOf_48 (c_mo_could G st x3 (tt_A st 58 (Int32.toNatClampNeg (nI j)))) mw_mo_could ms_mo_could ml_mo_229 rfl rfl rfl (Nat.le_of_ble_eq_true rfl) rfl ?_
            refine r_aload_n 0 hC d_mo_sortsOf_51 rfl ?_
            refine r_getR (r := 59) hC d_mo_sortsOf_52 fl_mo_37 rfl rfl rfl ?_
            refine r_iload 5 hC d_mo_sortsOf_55 rfl ?_
            refine r_iald hC d_mo_sortsOf_57 rfl (by decide) rfl rfl (vp_in_nI (by omega) (by omega)) ?_
            refine r_iconst (v := 1) hC d_mo_sortsOf_58 (by decide) ?_
            refine tt_join 67 [(0, .ref (tt_ad G 49)), (1, .int a1), (2, .int x2), (3, .int x3), (5, .int (nI j))] [.int (if (tt_A st 59 (Int32.toNatClampNeg (nI j))) = 1 then 1 else 0), .int (mo_could x3 (tt_A st 58 (Int32.toNatClampNeg (nI j))))] ?_ (fun kj_59 => ?_)
            ·
              refine tt_join 75 [(0, .ref (tt_ad G 49)), (1, .int a1), (2, .int x2), (3, .int x3), (5, .int (nI j))] [.int (if (mo_could x3 (tt_A st 58 (Int32.toNatClampNeg (nI j)))) = (if (tt_A st 59 (Int32.toNatClampNeg (nI j))) = 1 then 1 else 0) then 1 else 0)] ?_ (fun kj_67 => ?_)
              ·
                exact tt_cast [0, 1, 2, 3, 4] rfl (by simp only [if_pos c_37]) kj_37
              ·
                refine j_icmp_ne (tgt := 74) hC d_mo_sortsOf_67 (by decide) (fun c_67 => ?_) (fun c_67 => ?_)
                ·
                  refine r_iconst (v := 0) hC d_mo_sortsOf_74 (by decide) ?_
                  exact tt_cast [0, 1, 2, 3, 4] rfl (by simp only [if_neg c_67]) kj_67
                ·
                  refine r_iconst (v := 1) hC d_mo_sortsOf_70 (by decide) ?_
                  refine r_goto (tgt := 75) hC d_mo_sortsOf_71 (by decide) ?_
                  exact tt_cast [0, 1, 2, 3, 4] rfl (by simp only [if_pos c_67]) kj_67
            ·
              refine j_icmp_ne (tgt := 66) hC d_mo_sortsOf_59 (by decide) (fun c_59 => ?_) (fun c_59 => ?_)
              ·
                refine r_iconst (v := 0) hC d_mo_sortsOf_66 (by decide) ?_
                exact tt_cast [0, 1, 2, 3, 5] rfl (by simp only [if_neg c_59]) kj_59
              ·
                refine r_iconst (v := 1) hC d_mo_sortsOf_62 (by decide) ?_
                refine r_goto (tgt := 67) hC d_mo_sortsOf_63 (by decide) ?_
                exact tt_cast [0, 1, 2, 3, 5] rfl (by simp only [if_pos c_59]) kj_59
def mo_sortsOf_l4 (st : tt_St) (a1 : Int32) : Nat → Nat → Int32 → Int32
  | 0, j, x2 => x2
  | n + 1, j, x2 => (mo_sortsOf_l4 st a1 n (j + 1) (x2 ||| (if (mo_sortsOf_l15 st a1 x2 (nI j) (Int32.toNatClampNeg (tt_I st 49 9)) 0 1) = 0 then 0 else (1 <<< ((nI j) &&& 31)))))
set_option maxHeartbeats 4000000 in
set_option maxRecDepth 20000 in
theorem l_mo_sortsOf_4 {α : Type} {G : tt_G} {κ : tt_X α} {T : α} (hC : tt_Cx G κ prog_7_method_64_code "TideTableModel" 6 1 21) (st : tt_St) (a1 : Int32) (hI : mo_ok st) : ∀ (n j : Nat) (x2 : Int32), j + n = 5 → tt_V G κ T st 104 [(2, .int (mo_sortsOf_l4 st a1 n j x2))] [] → tt_V G κ T st 4 [(0, .ref (tt_ad G 49)), (1, .int a1), (2, .int x2), (3, .int (nI j))] [] := by
  intro n
  induction n with
  | zero =>
    intro j x2 hj k
    refine r_iload_n 3 hC d_mo_sortsOf_4 rfl ?_
    refine r_iconst (v := 4) hC d_mo_sortsOf_5 (by decide) ?_
    refine t_icmp_gt (tgt := 104) hC d_mo_sortsOf_6 (by decide) (nI_lt (a := 4) (by omega) (by omega)) ?_
    exact tt_cast [2] rfl rfl k
  | succ n ih =>
    intro j x2 hj k
    refine r_iload_n 3 hC d_mo_sortsOf_4 rfl ?_
    refine r_iconst (v := 4) hC d_mo_sortsOf_5 (by decide) ?_
    refine f_icmp_gt (tgt := 104) hC d_mo_sortsOf_6 (by decide) (nI_nlt (a := 4) (b := j) (by omega) (by omega)) ?_
    refine r_iconst (v := 1) hC d_mo_sortsOf_9 (by decide) ?_
    refine r_istore [(4, .int 1), (0, .ref (tt_ad G 49)), (1, .int a1), (2, .int x2), (3, .int (nI j))] hC d_mo_sortsOf_10 (by decide) rfl ?_
    refine r_iconst (v := 0) hC d_mo_sortsOf_12 (by decide) ?_
    refine r_istore [(5, .int 0), (4, .int 1), (0, .ref (tt_ad G 49)), (1, .int a1), (2, .int x2), (3, .int (nI j))] hC d_mo_sortsOf_13 (by decide) rfl ?_
    refine tt_cast [2, 3, 4, 5, 1, 0] rfl rfl (l_mo_sortsOf_15 hC st a1 x2 (nI j) hI (tt_cle hI.2.1.2) (Int32.toNatClampNeg (tt_I st 49 9)) 0 1 (by omega)  ?_)
    refine r_iload_n 2 hC d_mo_sortsOf_83 rfl ?_
    refine r_iload 4 hC d_mo_sortsOf_84 rfl ?_
    refine tt_join 96 [(0, .ref (tt_ad G 49)), (1, .int a1), (3, .int (nI j))] [.int (if (mo_sortsOf_l15 st a1 x2 (nI j) (Int32.toNatClampNeg (tt_I st 49 9)) 0 1) = 0 then 0 else (1 <<< ((nI j) &&& 31))), .int x2] ?_ (fun kj_86 => ?_)
    ·
      refine r_ior hC d_mo_sortsOf_96 ?_
      refine r_istore_n [(2, .int (x2 ||| (if (mo_sortsOf_l15 st a1 x2 (nI j) (Int32.toNatClampNeg (tt_I st 49 9)) 0 1) = 0 then 0 else (1 <<< ((nI j) &&& 31))))), (0, .ref (tt_ad G 49)), (1, .int a1), (3, .int (nI j))] hC d_mo_sortsOf_97 rfl (by decide) rfl ?_
      refine r_iinc 3 (nI (j + 1)) [(3, .int (nI (j + 1))), (2, .int (x2 ||| (if (mo_sortsOf_l15 st a1 x2 (nI j) (Int32.toNatClampNeg (tt_I st 49 9)) 0 1) = 0 then 0 else (1 <<< ((nI j) &&& 31))))), (0, .ref (tt_ad G 49)), (1, .int a1)] hC d_mo_sortsOf_98 rfl (by rw [nI_succ]; rfl) (by decide) rfl ?_
      refine r_goto (tgt := 4) hC d_mo_sortsOf_101 (by decide) ?_
      exact tt_cast [2, 3, 1, 0] rfl rfl (ih (j + 1) (x2 ||| (if (mo_sortsOf_l15 st a1 x2 (nI j) (Int32.toNatClampNeg (tt_I st 49 9)) 0 1) = 0 then 0 else (1 <<< ((nI j) &&& 31)))) (by omega) (by simpa only [mo_sortsOf_l4] using k))
    ·
      refine j_if_eq (tgt := 95) hC d_mo_sortsOf_86 (by decide) (fun c_86 => ?_) (fun c_86 => ?_)
      ·
        refine r_iconst (v := 0) hC d_mo_sortsOf_95 (by decide) ?_
        exact tt_cast [0, 1, 3] rfl (by simp only [if_pos c_86]) kj_86
      ·
        refine r_iconst (v := 1) hC d_mo_sortsOf_89 (by decide) ?_
        refine r_iload_n 3 hC d_mo_sortsOf_90 rfl ?_
        refine r_ishl hC d_mo_sortsOf_91 ?_
        refine r_goto (tgt := 96) hC d_mo_sortsOf_92 (by decide) ?_
        exact tt_cast [0, 1, 3] rfl (by simp only [if_neg c_86]) kj_86
def mo_sortsOf (st : tt_St) (a1 : Int32) : Int32 := (mo_sortsOf_l4 st a1 5 0 0)
set_option maxHeartbeats 4000000 in
set_option maxRecDepth 20000 in
theorem c_mo_sortsOf (G : tt_G) (st : tt_St) (a1 : Int32) (hI : mo_ok st) : tt_C y_mo_sortsOf prog_7_method_64_code 6 (some .int) 1 21 G [.ref (tt_ad G 49), .int a1] st (some (.int (mo_sortsOf st a1))) st := by
  refine tt_enter (α := Int32) (mk := fun r => (some (.int r), st)) (T := (mo_sortsOf st a1)) (by decide +kernel) (Nat.le_of_ble_eq_true rfl) (fun κ hC hR => ?_)
  rw [mo_sortsOf]
  refine r_iconst (v := 0) hC d_mo_sortsOf_0 (by decide) ?_
  refine r_istore_n [(2, .int 0), (0, .ref (tt_ad G 49)), (1, .int a1)] hC d_mo_sortsOf_1 rfl (by decide) rfl ?_
  refine r_iconst (v := 0) hC d_mo_sortsOf_2 (by decide) ?_
  refine r_istore_n [(3, .int 0), (2, .int 0), (0, .ref (tt_ad G 49)), (1, .int a1)] hC d_mo_sortsOf_3 rfl (by decide) rfl ?_
  refine tt_cast [2, 3, 1, 0] rfl rfl (l_mo_sortsOf_4 hC st a1 hI 5 0 0 (by omega)  ?_)
  refine r_iload_n 0 hC d_mo_sortsOf_104 rfl ?_
  exact r_iret hC hR d_mo_sortsOf_105 rfl rfl
/-! TideTableModel.askOf(I)I -/
def mo_askOf_l33 (st : tt_St) (a1 : Int32) (x2 : Int32) (x3 : Int32) (x4 : Int32) (x5 : Int32) : Nat → Nat → Int32 → Int32
  | 0, j, x6 => x6
  | n + 1, j, x6 => (mo_askOf_l33 st a1 x2 x3 x4 x5 n (j + 1) (x6 + (if (mo_isIn x2 (nI j)) = 0 then 0 else (if (mo_could (nI j) x5) = 0 then 0 else 1))))
set_option maxHeartbeats 4000000 in
set_option maxRecDepth 20000 in
theorem l_mo_askOf_33 {α : Type} {G : tt_G} {κ : tt_X α} {T : α} (hC : tt_Cx G κ prog_7_method_65_code "TideTableModel" 9 2 46) (st : tt_St) (a1 : Int32) (x2 : Int32) (x3 : Int32) (x4 : Int32) (x5 : Int32) (hI : mo_ok st) : ∀ (n j : Nat) (x6 : Int32), j + n = 5 → tt_V G κ T st 74 [(2, .int x2), (3, .int x3), (4, .int x4), (5, .int x5), (6, .int (mo_askOf_l33 st a1 x2 x3 x4 x5 n j x6))] [] → tt_V G κ T st 33 [(2, .int x2), (3, .int x3), (4, .int x4), (5, .int x5), (6, .int x6), (7, .int (nI j))] [] := by
  intro n
  induction n with
  | zero =>
    intro j x6 hj k
    refine r_iload 5 hC d_mo_askOf_33 rfl ?_
    refine r_iconst (v := 4) hC d_mo_askOf_35 (by decide) ?_
    refine t_icmp_gt (tgt := 74) hC d_mo_askOf_36 (by decide) (nI_lt (a := 4) (by omega) (by omega)) ?_
    exact tt_cast [0, 1, 2, 3, 4] rfl rfl k
  | succ n ih =>
    intro j x6 hj k
    refine r_iload 5 hC d_mo_askOf_33 rfl ?_
    refine r_iconst (v := 4) hC d_mo_askOf_35 (by decide) ?_
    refine f_icmp_gt (tgt := 74) hC d_mo_askOf_36 (by decide) (nI_nlt (a := 4) (b := j) (by omega) (by omega)) ?_
    refine r_iload 4 hC d_mo_askOf_39 rfl ?_
    refine r_iload_n 0 hC d_mo_askOf_41 rfl ?_
    refine r_iload 5 hC d_mo_askOf_42 rfl ?_
    refine r_callS (rest := [.int x6]) (stk1 := [.int (mo_isIn x2 (nI j)), .int x6]) hC d_mo_askOf_44 (c_mo_isIn G st x2 (nI j)) mw_mo_isIn ms_mo_isIn ml_mo_233 rfl rfl rfl (Nat.le_of_ble_eq_true rfl) rfl ?_
    refine tt_join 65 [(2, .int x2), (3, .int x3), (4, .int x4), (5, .int x5), (7, .int (nI j))] [.int (if (mo_isIn x2 (nI j)) = 0 then 0 else (if (mo_could (nI j) x5) = 0 then 0 else 1)), .int x6] ?_ (fun kj_47 => ?_)
    ·
      refine r_iadd hC d_mo_askOf_65 ?_
      refine r_istore [(6, .int (x6 + (if (mo_isIn x2 (nI j)) = 0 then 0 else (if (mo_could (nI j) x5) = 0 then 0 else 1)))), (2, .int x2), (3, .int x3), (4, .int x4), (5, .int x5), (7, .int (nI j))] hC d_mo_askOf_66 (by decide) rfl ?_
      refine r_iinc 5 (nI (j + 1)) [(7, .int (nI (j + 1))), (6, .int (x6 + (if (mo_isIn x2 (nI j)) = 0 then 0 else (if (mo_could (nI j) x5) = 0 then 0 else 1)))), (2, .int x2), (3, .int x3), (4, .int x4), (5, .int x5)] hC d_mo_askOf_68 rfl (by rw [nI_succ]; rfl) (by decide) rfl ?_
      refine r_goto (tgt := 33) hC d_mo_askOf_71 (by decide) ?_
      exact tt_cast [2, 3, 4, 5, 1, 0] rfl rfl (ih (j + 1) (x6 + (if (mo_isIn x2 (nI j)) = 0 then 0 else (if (mo_could (nI j) x5) = 0 then 0 else 1))) (by omega) (by simpa only [mo_askOf_l33] using k))
    ·
      refine j_if_eq (tgt := 64) hC d_mo_askOf_47 (by decide) (fun c_47 => ?_) (fun c_47 => ?_)
      ·
        refine r_iconst (v := 0) hC d_mo_askOf_64 (by decide) ?_
        exact tt_cast [0, 1, 2, 3, 5] rfl (by simp only [if_pos c_47]) kj_47
      ·
        refine r_iload 5 hC d_mo_askOf_50 rfl ?_
        refine r_iload 3 hC d_mo_askOf_52 rfl ?_
        refine r_callS (rest := [.int x6]) (stk1 := [.int (mo_could (nI j) x5), .int x6]) hC d_mo_askOf_54 (c_mo_could G st (nI j) x5) mw_mo_could ms_mo_could ml_mo_229 rfl rfl rfl (Nat.le_of_ble_eq_true rfl) rfl ?_
        refine tt_join 65 [(2, .int x2), (3, .int x3), (4, .int x4), (5, .int x5), (7, .int (nI j))] [.int (if (mo_could (nI j) x5) = 0 then 0 else 1), .int x6] ?_ (fun kj_57 => ?_)
        ·
          exact tt_cast [0, 1, 2, 3, 4] rfl (by simp only [if_neg c_47]) kj_47
        ·
          refine j_if_eq (tgt := 64) hC d_mo_askOf_57 (by decide) (fun c_57 => ?_) (fun c_57 => ?_)
          ·
            refine r_iconst (v := 0) hC d_mo_askOf_64 (by decide) ?_
            exact tt_cast [0, 1, 2, 3, 5] rfl (by simp only [if_pos c_57]) kj_57
          ·
            refine r_iconst (v := 1) hC d_mo_askOf_60 (by decide) ?_
            refine r_goto (tgt := 65) hC d_mo_askOf_61 (by decide) ?_
            exact tt_cast [0, 1, 2, 3, 5] rfl (by simp only [if_neg c_57]) kj_57
def mo_askOf_l17 (st : tt_St) (a1 : Int32) (x2 : Int32) : Nat → Nat → Int32 → Int32 → Int32 × Int32
  | 0, j, x3, x4 => (x3, x4)
  | n + 1, j, x3, x4 => (if x2 = 0 then (x3, x4) else (mo_askOf_l17 st a1 x2 n (j + 1) (if x4 ≤ (if (mo_askOf_l33 st a1 x2 x3 x4 (nI j) 5 0 0) ≤ ((mo_size x2) - (mo_askOf_l33 st a1 x2 x3 x4 (nI j) 5 0 0)) then ((mo_size x2) - (mo_askOf_l33 st a1 x2 x3 x4 (nI j) 5 0 0)) else (mo_askOf_l33 st a1 x2 x3 x4 (nI j) 5 0 0)) then x3 else (nI j)) (if x4 ≤ (if (mo_askOf_l33 st a1 x2 x3 x4 (nI j) 5 0 0) ≤ ((mo_size x2) - (mo_askOf_l33 st a1 x2 x3 x4 (nI j) 5 0 0)) then ((mo_size x2) - (mo_askOf_l33 st a1 x2 x3 x4 (nI j) 5 0 0)) else (mo_askOf_l33 st a1 x2 x3 x4 (nI j) 5 0 0)) then x4 else (if (mo_askOf_l33 st a1 x2 x3 x4 (nI j) 5 0 0) ≤ ((mo_size x2) - (mo_askOf_l33 st a1 x2 x3 x4 (nI j) 5 0 0)) then ((mo_size x2) - (mo_askOf_l33 st a1 x2 x3 x4 (nI j) 5 0 0)) else (mo_askOf_l33 st a1 x2 x3 x4 (nI j) 5 0 0)))))
set_option maxHeartbeats 4000000 in
set_option maxRecDepth 20000 in
theorem l_mo_askOf_17 {α : Type} {G : tt_G} {κ : tt_X α} {T : α} (hC : tt_Cx G κ prog_7_method_65_code "TideTableModel" 9 2 46) (st : tt_St) (a1 : Int32) (x2 : Int32) (hI : mo_ok st) : ∀ (n j : Nat) (x3 : Int32) (x4 : Int32), j + n = 4 → tt_V G κ T st 135 [(3, .int ((mo_askOf_l17 st a1 x2 n j x3 x4).1))] [] → tt_V G κ T st 17 [(2, .int x2), (3, .int x3), (4, .int x4), (5, .int (nI j))] [] := by
  intro n
  induction n with
  | zero =>
    intro j x3 x4 hj k
    refine r_iload 3 hC d_mo_askOf_17 rfl ?_
    refine r_iconst (v := 4) hC d_mo_askOf_19 (by decide) ?_
    refine t_icmp_ge (tgt := 135) hC d_mo_askOf_20 (by decide) (nI_le (a := 4) (by omega) (by omega)) ?_
    exact tt_cast [1] rfl rfl k
  | succ n ih =>
    intro j x3 x4 hj k
    refine r_iload 3 hC d_mo_askOf_17 rfl ?_
    refine r_iconst (v := 4) hC d_mo_askOf_19 (by decide) ?_
    refine f_icmp_ge (tgt := 135) hC d_mo_askOf_20 (by decide) (nI_ge (a := j) (b := 4) (by omega) (by omega)) ?_
    refine r_iload_n 0 hC d_mo_askOf_23 rfl ?_
    refine j_if_eq (tgt := 135) hC d_mo_askOf_24 (by decide) (fun c_24 => ?_) (fun c_24 => ?_)
    ·
      exact tt_cast [1] rfl rfl (by simpa only [mo_askOf_l17, if_pos c_24] using k)
    ·
      refine r_iconst (v := 0) hC d_mo_askOf_27 (by decide) ?_
      refine r_istore [(6, .int 0), (2, .int x2), (3, .int x3), (4, .int x4), (5, .int (nI j))] hC d_mo_askOf_28 (by decide) rfl ?_
      refine r_iconst (v := 0) hC d_mo_askOf_30 (by decide) ?_
      refine r_istore [(7, .int 0), (6, .int 0), (2, .int x2), (3, .int x3), (4, .int x4), (5, .int (nI j))] hC d_mo_askOf_31 (by decide) rfl ?_
      refine tt_cast [2, 3, 4, 5, 1, 0] rfl rfl (l_mo_askOf_33 hC st a1 x2 x3 x4 (nI j) hI 5 0 0 (by omega)  ?_)
      refine r_iload_n 0 hC d_mo_askOf_74 rfl ?_
      refine r_callS (rest := []) (stk1 := [.int (mo_size x2)]) hC d_mo_askOf_75 (c_mo_size G st x2) mw_mo_size ms_mo_size ml_mo_236 rfl rfl rfl (Nat.le_of_ble_eq_true rfl) rfl ?_
      refine r_iload 4 hC d_mo_askOf_78 rfl ?_
      refine r_isub hC d_mo_askOf_80 ?_
      refine r_istore [(7, .int ((mo_size x2) - (mo_askOf_l33 st a1 x2 x3 x4 (nI j) 5 0 0))), (2, .int x2), (3, .int x3), (4, .int x4), (5, .int (nI j)), (6, .int (mo_askOf_l33 st a1 x2 x3 x4 (nI j) 5 0 0))] hC d_mo_askOf_81 (by decide) rfl ?_
      refine r_iload 5 hC d_mo_askOf_83 rfl ?_
      refine r_iload 0 hC d_mo_askOf_85 rfl ?_
      refine tt_join 97 [(2, .int x2), (3, .int x3), (4, .int x4), (5, .int (nI j))] [.int (if (mo_askOf_l33 st a1 x2 x3 x4 (nI j) 5 0 0) ≤ ((mo_size x2) - (mo_askOf_l33 st a1 x2 x3 x4 (nI j) 5 0 0)) then ((mo_size x2) - (mo_askOf_l33 st a1 x2 x3 x4 (nI j) 5 0 0)) else (mo_askOf_l33 st a1 x2 x3 x4 (nI j) 5 0 0))] ?_ (fun kj_87 => ?_)
      ·
        refine r_istore [(8, .int (if (mo_askOf_l33 st a1 x2 x3 x4 (nI j) 5 0 0) ≤ ((mo_size x2) - (mo_askOf_l33 st a1 x2 x3 x4 (nI j) 5 0 0)) then ((mo_size x2) - (mo_askOf_l33 st a1 x2 x3 x4 (nI j) 5 0 0)) else (mo_askOf_l33 st a1 x2 x3 x4 (nI j) 5 0 0))), (2, .int x2), (3, .int x3), (4, .int x4), (5, .int (nI j))] hC d_mo_askOf_97 (by decide) rfl ?_
        refine r_iload 0 hC d_mo_askOf_99 rfl ?_
        refine r_iload 3 hC d_mo_askOf_101 rfl ?_
        refine tt_join 112 [(2, .int x2), (4, .int x4), (5, .int (nI j)), (8, .int (if (mo_askOf_l33 st a1 x2 x3 x4 (nI j) 5 0 0) ≤ ((mo_size x2) - (mo_askOf_l33 st a1 x2 x3 x4 (nI j) 5 0 0)) then ((mo_size x2) - (mo_askOf_l33 st a1 x2 x3 x4 (nI j) 5 0 0)) else (mo_askOf_l33 st a1 x2 x3 x4 (nI j) 5 0 0)))] [.int (if x4 ≤ (if (mo_askOf_l33 st a1 x2 x3 x4 (nI j) 5 0 0) ≤ ((mo_size x2) - (mo_askOf_l33 st a1 x2 x3 x4 (nI j) 5 0 0)) then ((mo_size x2) - (mo_askOf_l33 st a1 x2 x3 x4 (nI j) 5 0 0)) else (mo_askOf_l33 st a1 x2 x3 x4 (nI j) 5 0 0)) then x3 else (nI j))] ?_ (fun kj_103 => ?_)
        ·
          refine r_istore_n [(3, .int (if x4 ≤ (if (mo_askOf_l33 st a1 x2 x3 x4 (nI j) 5 0 0) ≤ ((mo_size x2) - (mo_askOf_l33 st a1 x2 x3 x4 (nI j) 5 0 0)) then ((mo_size x2) - (mo_askOf_l33 st a1 x2 x3 x4 (nI j) 5 0 0)) else (mo_askOf_l33 st a1 x2 x3 x4 (nI j) 5 0 0)) then x3 else (nI j))), (2, .int x2), (4, .int x4), (5, .int (nI j)), (8, .int (if (mo_askOf_l33 st a1 x2 x3 x4 (nI j) 5 0 0) ≤ ((mo_size x2) - (mo_askOf_l33 st a1 x2 x3 x4 (nI j) 5 0 0)) then ((mo_size x2) - (mo_askOf_l33 st a1 x2 x3 x4 (nI j) 5 0 0)) else (mo_askOf_l33 st a1 x2 x3 x4 (nI j) 5 0 0)))] hC d_mo_askOf_112 rfl (by decide) rfl ?_
          refine r_iload 4 hC d_mo_askOf_113 rfl ?_
          refine r_iload 2 hC d_mo_askOf_115 rfl ?_
          refine tt_join 127 [(2, .int x2), (3, .int (if x4 ≤ (if (mo_askOf_l33 st a1 x2 x3 x4 (nI j) 5 0 0) ≤ ((mo_size x2) - (mo_askOf_l33 st a1 x2 x3 x4 (nI j) 5 0 0)) then ((mo_size x2) - (mo_askOf_l33 st a1 x2 x3 x4 (nI j) 5 0 0)) else (mo_askOf_l33 st a1 x2 x3 x4 (nI j) 5 0 0)) then x3 else (nI j))), (5, .int (nI j))] [.int (if x4 ≤ (if (mo_askOf_l33 st a1 x2 x3 x4 (nI j) 5 0 0) ≤ ((mo_size x2) - (mo_askOf_l33 st a1 x2 x3 x4 (nI j) 5 0 0)) then ((mo_size x2) - (mo_askOf_l33 st a1 x2 x3 x4 (nI j) 5 0 0)) else (mo_askOf_l33 st a1 x2 x3 x4 (nI j) 5 0 0)) then x4 else (if (mo_askOf_l33 st a1 x2 x3 x4 (nI j) 5 0 0) ≤ ((mo_size x2) - (mo_askOf_l33 st a1 x2 x3 x4 (nI j) 5 0 0)) then ((mo_size x2) - (mo_askOf_l33 st a1 x2 x3 x4 (nI j) 5 0 0)) else (mo_askOf_l33 st a1 x2 x3 x4 (nI j) 5 0 0)))] ?_ (fun kj_117 => ?_)
          ·
            refine r_istore [(4, .int (if x4 ≤ (if (mo_askOf_l33 st a1 x2 x3 x4 (nI j) 5 0 0) ≤ ((mo_size x2) - (mo_askOf_l33 st a1 x2 x3 x4 (nI j) 5 0 0)) then ((mo_size x2) - (mo_askOf_l33 st a1 x2 x3 x4 (nI j) 5 0 0)) else (mo_askOf_l33 st a1 x2 x3 x4 (nI j) 5 0 0)) then x4 else (if (mo_askOf_l33 st a1 x2 x3 x4 (nI j) 5 0 0) ≤ ((mo_size x2) - (mo_askOf_l33 st a1 x2 x3 x4 (nI j) 5 0 0)) then ((mo_size x2) - (mo_askOf_l33 st a1 x2 x3 x4 (nI j) 5 0 0)) else (mo_askOf_l33 st a1 x2 x3 x4 (nI j) 5 0 0)))), (2, .int x2), (3, .int (if x4 ≤ (if (mo_askOf_l33 st a1 x2 x3 x4 (nI j) 5 0 0) ≤ ((mo_size x2) - (mo_askOf_l33 st a1 x2 x3 x4 (nI j) 5 0 0)) then ((mo_size x2) - (mo_askOf_l33 st a1 x2 x3 x4 (nI j) 5 0 0)) else (mo_askOf_l33 st a1 x2 x3 x4 (nI j) 5 0 0)) then x3 else (nI j))), (5, .int (nI j))] hC d_mo_askOf_127 (by decide) rfl ?_
            refine r_iinc 3 (nI (j + 1)) [(5, .int (nI (j + 1))), (4, .int (if x4 ≤ (if (mo_askOf_l33 st a1 x2 x3 x4 (nI j) 5 0 0) ≤ ((mo_size x2) - (mo_askOf_l33 st a1 x2 x3 x4 (nI j) 5 0 0)) then ((mo_size x2) - (mo_askOf_l33 st a1 x2 x3 x4 (nI j) 5 0 0)) else (mo_askOf_l33 st a1 x2 x3 x4 (nI j) 5 0 0)) then x4 else (if (mo_askOf_l33 st a1 x2 x3 x4 (nI j) 5 0 0) ≤ ((mo_size x2) - (mo_askOf_l33 st a1 x2 x3 x4 (nI j) 5 0 0)) then ((mo_size x2) - (mo_askOf_l33 st a1 x2 x3 x4 (nI j) 5 0 0)) else (mo_askOf_l33 st a1 x2 x3 x4 (nI j) 5 0 0)))), (2, .int x2), (3, .int (if x4 ≤ (if (mo_askOf_l33 st a1 x2 x3 x4 (nI j) 5 0 0) ≤ ((mo_size x2) - (mo_askOf_l33 st a1 x2 x3 x4 (nI j) 5 0 0)) then ((mo_size x2) - (mo_askOf_l33 st a1 x2 x3 x4 (nI j) 5 0 0)) else (mo_askOf_l33 st a1 x2 x3 x4 (nI j) 5 0 0)) then x3 else (nI j)))] hC d_mo_askOf_129 rfl (by rw [nI_succ]; rfl) (by decide) rfl ?_
            refine r_goto (tgt := 17) hC d_mo_askOf_132 (by decide) ?_
            exact tt_cast [2, 3, 1, 0] rfl rfl (ih (j + 1) (if x4 ≤ (if (mo_askOf_l33 st a1 x2 x3 x4 (nI j) 5 0 0) ≤ ((mo_size x2) - (mo_askOf_l33 st a1 x2 x3 x4 (nI j) 5 0 0)) then ((mo_size x2) - (mo_askOf_l33 st a1 x2 x3 x4 (nI j) 5 0 0)) else (mo_askOf_l33 st a1 x2 x3 x4 (nI j) 5 0 0)) then x3 else (nI j)) (if x4 ≤ (if (mo_askOf_l33 st a1 x2 x3 x4 (nI j) 5 0 0) ≤ ((mo_size x2) - (mo_askOf_l33 st a1 x2 x3 x4 (nI j) 5 0 0)) then ((mo_size x2) - (mo_askOf_l33 st a1 x2 x3 x4 (nI j) 5 0 0)) else (mo_askOf_l33 st a1 x2 x3 x4 (nI j) 5 0 0)) then x4 else (if (mo_askOf_l33 st a1 x2 x3 x4 (nI j) 5 0 0) ≤ ((mo_size x2) - (mo_askOf_l33 st a1 x2 x3 x4 (nI j) 5 0 0)) then ((mo_size x2) - (mo_askOf_l33 st a1 x2 x3 x4 (nI j) 5 0 0)) else (mo_askOf_l33 st a1 x2 x3 x4 (nI j) 5 0 0))) (by omega) (by simpa only [mo_askOf_l17, if_neg c_24] using k))
          ·
            refine j_icmp_ge (tgt := 125) hC d_mo_askOf_117 (by decide) (fun c_117 => ?_) (fun c_117 => ?_)
            ·
              refine r_iload 2 hC d_mo_askOf_125 rfl ?_
              exact tt_cast [1, 0, 3] rfl (by simp only [if_pos c_117]) kj_117
            ·
              refine r_iload 4 hC d_mo_askOf_120 rfl ?_
              refine r_goto (tgt := 127) hC d_mo_askOf_122 (by decide) ?_
              exact tt_cast [1, 0, 3] rfl (by simp only [if_neg c_117]) kj_117
        ·
          refine j_icmp_ge (tgt := 111) hC d_mo_askOf_103 (by decide) (fun c_103 => ?_) (fun c_103 => ?_)
          ·
            refine r_iload_n 2 hC d_mo_askOf_111 rfl ?_
            exact tt_cast [1, 3, 4, 0] rfl (by simp only [if_pos c_103]) kj_103
          ·
            refine r_iload 4 hC d_mo_askOf_106 rfl ?_
            refine r_goto (tgt := 112) hC d_mo_askOf_108 (by decide) ?_
            exact tt_cast [1, 3, 4, 0] rfl (by simp only [if_neg c_103]) kj_103
      ·
        refine j_icmp_le (tgt := 95) hC d_mo_askOf_87 (by decide) (fun c_87 => ?_) (fun c_87 => ?_)
        ·
          refine r_iload 0 hC d_mo_askOf_95 rfl ?_
          exact tt_cast [1, 2, 3, 4] rfl (by simp only [if_pos c_87]) kj_87
        ·
          refine r_iload 5 hC d_mo_askOf_90 rfl ?_
          refine r_goto (tgt := 97) hC d_mo_askOf_92 (by decide) ?_
          exact tt_cast [1, 2, 3, 4] rfl (by simp only [if_neg c_87]) kj_87
def mo_askOf (st : tt_St) (a1 : Int32) : Int32 := ((mo_askOf_l17 st a1 (mo_sortsOf st a1) 4 0 (-10001) 268435456).1)
set_option maxHeartbeats 4000000 in
set_option maxRecDepth 20000 in
theorem c_mo_askOf (G : tt_G) (st : tt_St) (a1 : Int32) (hI : mo_ok st) : tt_C y_mo_askOf prog_7_method_65_code 9 (some .int) 2 46 G [.ref (tt_ad G 49), .int a1] st (some (.int (mo_askOf st a1))) st := by
  refine tt_enter (α := Int32) (mk := fun r => (some (.int r), st)) (T := (mo_askOf st a1)) (by decide +kernel) (Nat.le_of_ble_eq_true rfl) (fun κ hC hR => ?_)
  rw [mo_askOf]
  refine r_aload_n 0 hC d_mo_askOf_0 rfl ?_
  refine r_iload_n 1 hC d_mo_askOf_1 rfl ?_
  refine r_callV (o := 49) (rest := []) (stk1 := [.int (mo_sortsOf st a1)]) hC d_mo_askOf_2 (c_mo_sortsOf G st a1 hI) mw_mo_sortsOf mi_mo_sortsOf mz_mo_sortsOf ml_mo_150 rfl rfl rfl rfl rfl (Nat.le_of_ble_eq_true rfl) rfl ?_
  refine r_istore_n [(2, .int (mo_sortsOf st a1)), (0, .ref (tt_ad G 49)), (1, .int a1)] hC d_mo_askOf_5 rfl (by decide) rfl ?_
  refine r_sipush (v := (-10001)) hC d_mo_askOf_6 (by decide) ?_
  refine r_istore_n [(3, .int (-10001)), (2, .int (mo_sortsOf st a1)), (0, .ref (tt_ad G 49)), (1, .int a1)] hC d_mo_askOf_9 rfl (by decide) rfl ?_
  refine r_ldc hC d_mo_askOf_10 k_mo_232 ?_
  refine r_istore [(4, .int 268435456), (3, .int (-10001)), (2, .int (mo_sortsOf st a1)), (0, .ref (tt_ad G 49)), (1, .int a1)] hC d_mo_askOf_12 (by decide) rfl ?_
  refine r_iconst (v := 0) hC d_mo_askOf_14 (by decide) ?_
  refine r_istore [(5, .int 0), (4, .int 268435456), (3, .int (-10001)), (2, .int (mo_sortsOf st a1)), (0, .ref (tt_ad G 49)), (1, .int a1)] hC d_mo_askOf_15 (by decide) rfl ?_
  refine tt_cast [3, 2, 1, 0] rfl rfl (l_mo_askOf_17 hC st a1 (mo_sortsOf st a1) hI 4 0 (-10001) 268435456 (by omega)  ?_)
  refine r_iload_n 0 hC d_mo_askOf_135 rfl ?_
  exact r_iret hC hR d_mo_askOf_136 rfl rfl
/-! TideTableModel.portNow(II)I -/
def mo_portNow (st : tt_St) (a1 : Int32) (a2 : Int32) : Int32 := (if a2 = 0 then (tt_A st 50 (Int32.toNatClampNeg a1)) else (if a2 = 1 then (tt_A st 51 (Int32.toNatClampNeg a1)) else (if a2 = 2 then (tt_A st 52 (Int32.toNatClampNeg a1)) else (if a2 = 3 then (tt_A st 53 (Int32.toNatClampNeg a1)) else (if a2 = 4 then (tt_A st 54 (Int32.toNatClampNeg a1)) else (if a2 = 5 then (mo_sortsOf st a1) else (mo_askOf st a1)))))))
set_option maxHeartbeats 4000000 in
set_option maxRecDepth 20000 in
theorem c_mo_portNow (G : tt_G) (st : tt_St) (a1 : Int32) (a2 : Int32) (hI : mo_ok st) (hp : vp_in a1 4) : tt_C y_mo_portNow prog_7_method_22_code 3 (some .int) 3 74 G [.ref (tt_ad G 49), .int a1, .int a2] st (some (.int (mo_portNow st a1 a2))) st := by
  refine tt_enter (α := Int32) (mk := fun r => (some (.int r), st)) (T := (mo_portNow st a1 a2)) (by decide +kernel) (Nat.le_of_ble_eq_true rfl) (fun κ hC hR => ?_)
  rw [mo_portNow]
  refine r_iload_n 2 hC d_mo_portNow_0 rfl ?_
  refine tt_ite (c := a2 = 0) (fun c_1_0 => ?_) (fun c_1_0 => ?_)
  ·
    refine r_tabIn (tgt := 40) (off := 39) hC d_mo_portNow_1 (by rw [c_1_0]; decide) (by rw [c_1_0]; decide) (by rw [c_1_0]; decide) (by decide) ?_
    refine r_aload_n 0 hC d_mo_portNow_40 rfl ?_
    refine r_getR (r := 50) hC d_mo_portNow_41 fl_mo_7 rfl rfl rfl ?_
    refine r_iload_n 1 hC d_mo_portNow_44 rfl ?_
    refine r_iald hC d_mo_portNow_45 rfl (by decide) rfl rfl hp ?_
    exact r_iret hC hR d_mo_portNow_46 rfl rfl
  ·
    refine tt_ite (c := a2 = 1) (fun c_1_1 => ?_) (fun c_1_1 => ?_)
    ·
      refine r_tabIn (tgt := 47) (off := 46) hC d_mo_portNow_1 (by rw [c_1_1]; decide) (by rw [c_1_1]; decide) (by rw [c_1_1]; decide) (by decide) ?_
      refine r_aload_n 0 hC d_mo_portNow_47 rfl ?_
      refine r_getR (r := 51) hC d_mo_portNow_48 fl_mo_13 rfl rfl rfl ?_
      refine r_iload_n 1 hC d_mo_portNow_51 rfl ?_
      refine r_iald hC d_mo_portNow_52 rfl (by decide) rfl rfl hp ?_
      exact r_iret hC hR d_mo_portNow_53 rfl rfl
    ·
      refine tt_ite (c := a2 = 2) (fun c_1_2 => ?_) (fun c_1_2 => ?_)
      ·
        refine r_tabIn (tgt := 54) (off := 53) hC d_mo_portNow_1 (by rw [c_1_2]; decide) (by rw [c_1_2]; decide) (by rw [c_1_2]; decide) (by decide) ?_
        refine r_aload_n 0 hC d_mo_portNow_54 rfl ?_
        refine r_getR (r := 52) hC d_mo_portNow_55 fl_mo_16 rfl rfl rfl ?_
        refine r_iload_n 1 hC d_mo_portNow_58 rfl ?_
        refine r_iald hC d_mo_portNow_59 rfl (by decide) rfl rfl hp ?_
        exact r_iret hC hR d_mo_portNow_60 rfl rfl
      ·
        refine tt_ite (c := a2 = 3) (fun c_1_3 => ?_) (fun c_1_3 => ?_)
        ·
          refine r_tabIn (tgt := 61) (off := 60) hC d_mo_portNow_1 (by rw [c_1_3]; decide) (by rw [c_1_3]; decide) (by rw [c_1_3]; decide) (by decide) ?_
          refine r_aload_n 0 hC d_mo_portNow_61 rfl ?_
          refine r_getR (r := 53) hC d_mo_portNow_62 fl_mo_19 rfl rfl rfl ?_
          refine r_iload_n 1 hC d_mo_portNow_65 rfl ?_
          refine r_iald hC d_mo_portNow_66 rfl (by decide) rfl rfl hp ?_
          exact r_iret hC hR d_mo_portNow_67 rfl rfl
        ·
          refine tt_ite (c := a2 = 4) (fun c_1_4 => ?_) (fun c_1_4 => ?_)
          ·
            refine r_tabIn (tgt := 68) (off := 67) hC d_mo_portNow_1 (by rw [c_1_4]; decide) (by rw [c_1_4]; decide) (by rw [c_1_4]; decide) (by decide) ?_
            refine r_aload_n 0 hC d_mo_portNow_68 rfl ?_
            refine r_getR (r := 54) hC d_mo_portNow_69 fl_mo_22 rfl rfl rfl ?_
            refine r_iload_n 1 hC d_mo_portNow_72 rfl ?_
            refine r_iald hC d_mo_portNow_73 rfl (by decide) rfl rfl hp ?_
            exact r_iret hC hR d_mo_portNow_74 rfl rfl
          ·
            refine tt_ite (c := a2 = 5) (fun c_1_5 => ?_) (fun c_1_5 => ?_)
            ·
              refine r_tabIn (tgt := 75) (off := 74) hC d_mo_portNow_1 (by rw [c_1_5]; decide) (by rw [c_1_5]; decide) (by rw [c_1_5]; decide) (by decide) ?_
              refine r_aload_n 0 hC d_mo_portNow_75 rfl ?_
              refine r_iload_n 1 hC d_mo_portNow_76 rfl ?_
              refine r_callV (o := 49) (rest := []) (stk1 := [.int (mo_sortsOf st a1)]) hC d_mo_portNow_77 (c_mo_sortsOf G st a1 hI) mw_mo_sortsOf mi_mo_sortsOf mz_mo_sortsOf ml_mo_150 rfl rfl rfl rfl rfl (Nat.le_of_ble_eq_true rfl) rfl ?_
              exact r_iret hC hR d_mo_portNow_80 rfl rfl
            ·
              have nc_1_0 := lv_neT (a := 0) c_1_0 (by decide)
              have nc_1_1 := lv_neT (a := 1) c_1_1 (by decide)
              have nc_1_2 := lv_neT (a := 2) c_1_2 (by decide)
              have nc_1_3 := lv_neT (a := 3) c_1_3 (by decide)
              have nc_1_4 := lv_neT (a := 4) c_1_4 (by decide)
              have nc_1_5 := lv_neT (a := 5) c_1_5 (by decide)
              refine r_tabOut (tgt := 81) hC d_mo_portNow_1 (by omega) (by decide) ?_
              refine r_aload_n 0 hC d_mo_portNow_81 rfl ?_
              refine r_iload_n 1 hC d_mo_portNow_82 rfl ?_
              refine r_callV (o := 49) (rest := []) (stk1 := [.int (mo_askOf st a1)]) hC d_mo_portNow_83 (c_mo_askOf G st a1 hI) mw_mo_askOf mi_mo_askOf mz_mo_askOf ml_mo_153 rfl rfl rfl rfl rfl (Nat.le_of_ble_eq_true rfl) rfl ?_
              exact r_iret hC hR d_mo_portNow_86 rfl rfl
/-! TideTableModel.port(II)I -/
def mo_port (st : tt_St) (a1 : Int32) (a2 : Int32) : Int32 := (if (mo_isPort st a1) = 0 then (-10101) else (if (mo_within a2 0 6) = 0 then (-10102) else (mo_portNow st a1 a2)))
set_option maxHeartbeats 4000000 in
set_option maxRecDepth 20000 in
theorem c_mo_port (G : tt_G) (st : tt_St) (a1 : Int32) (a2 : Int32) (hI : mo_ok st) : tt_C y_mo_port prog_7_method_23_code 3 (some .int) 4 96 G [.ref (tt_ad G 49), .int a1, .int a2] st (some (.int (mo_port st a1 a2))) st := by
  refine tt_enter (α := Int32) (mk := fun r => (some (.int r), st)) (T := (mo_port st a1 a2)) (by decide +kernel) (Nat.le_of_ble_eq_true rfl) (fun κ hC hR => ?_)
  rw [mo_port]
  refine r_aload_n 0 hC d_mo_port_0 rfl ?_
  refine r_iload_n 1 hC d_mo_port_1 rfl ?_
  refine r_callV (o := 49) (rest := []) (stk1 := [.int (mo_isPort st a1)]) hC d_mo_port_2 (c_mo_isPort G st a1) mw_mo_isPort mi_mo_isPort mz_mo_isPort ml_mo_147 rfl rfl rfl rfl rfl (Nat.le_of_ble_eq_true rfl) rfl ?_
  refine r_if_ne (tgt := 14) hC d_mo_port_5 (by decide) (fun c_5 => ?_) (fun c_5 => ?_)
  ·
    refine r_iload_n 2 hC d_mo_port_14 rfl ?_
    refine r_iconst (v := 0) hC d_mo_port_15 (by decide) ?_
    refine r_bipush (v := 6) hC d_mo_port_16 (by decide) ?_
    refine r_callS (rest := []) (stk1 := [.int (mo_within a2 0 6)]) hC d_mo_port_18 (c_mo_within G st a2 0 6) mw_mo_within ms_mo_within ml_mo_93 rfl rfl rfl (Nat.le_of_ble_eq_true rfl) rfl ?_
    refine r_if_eq (tgt := 33) hC d_mo_port_21 (by decide) (fun c_21 => ?_) (fun c_21 => ?_)
    ·
      refine r_sipush (v := (-10102)) hC d_mo_port_33 (by decide) ?_
      exact r_iret hC hR d_mo_port_36 rfl rfl
    ·
      refine r_aload_n 0 hC d_mo_port_24 rfl ?_
      refine r_iload_n 1 hC d_mo_port_25 rfl ?_
      refine r_iload_n 2 hC d_mo_port_26 rfl ?_
      refine r_callV (o := 49) (rest := []) (stk1 := [.int (mo_portNow st a1 a2)]) hC d_mo_port_27 (c_mo_portNow G st a1 a2 hI (mo_isPort_in hI c_5)) mw_mo_portNow mi_mo_portNow mz_mo_portNow ml_mo_156 rfl rfl rfl rfl rfl (Nat.le_of_ble_eq_true rfl) rfl ?_
      refine r_goto (tgt := 36) hC d_mo_port_30 (by decide) ?_
      exact r_iret hC hR d_mo_port_36 rfl rfl
  ·
    refine r_sipush (v := (-10101)) hC d_mo_port_8 (by decide) ?_
    refine r_goto (tgt := 36) hC d_mo_port_11 (by decide) ?_
    exact r_iret hC hR d_mo_port_36 rfl rfl
/-! TideTableModel.wave(III)I -/
def mo_wave (st : tt_St) (a1 : Int32) (a2 : Int32) (a3 : Int32) : Int32 := (if (mo_isWave st a1 a2) = 0 then (-10101) else (if (mo_within a3 0 2) = 0 then (-10102) else (mo_waveNow st a1 a2 a3)))
set_option maxHeartbeats 4000000 in
set_option maxRecDepth 20000 in
theorem c_mo_wave (G : tt_G) (st : tt_St) (a1 : Int32) (a2 : Int32) (a3 : Int32) (hI : mo_ok st) : tt_C y_mo_wave prog_7_method_25_code 4 (some .int) 3 65 G [.ref (tt_ad G 49), .int a1, .int a2, .int a3] st (some (.int (mo_wave st a1 a2 a3))) st := by
  refine tt_enter (α := Int32) (mk := fun r => (some (.int r), st)) (T := (mo_wave st a1 a2 a3)) (by decide +kernel) (Nat.le_of_ble_eq_true rfl) (fun κ hC hR => ?_)
  rw [mo_wave]
  refine r_aload_n 0 hC d_mo_wave_0 rfl ?_
  refine r_iload_n 1 hC d_mo_wave_1 rfl ?_
  refine r_iload_n 2 hC d_mo_wave_2 rfl ?_
  refine r_callV (o := 49) (rest := []) (stk1 := [.int (mo_isWave st a1 a2)]) hC d_mo_wave_3 (c_mo_isWave G st a1 a2 hI) mw_mo_isWave mi_mo_isWave mz_mo_isWave ml_mo_160 rfl rfl rfl rfl rfl (Nat.le_of_ble_eq_true rfl) rfl ?_
  refine r_if_ne (tgt := 15) hC d_mo_wave_6 (by decide) (fun c_6 => ?_) (fun c_6 => ?_)
  ·
    refine r_iload_n 3 hC d_mo_wave_15 rfl ?_
    refine r_iconst (v := 0) hC d_mo_wave_16 (by decide) ?_
    refine r_iconst (v := 2) hC d_mo_wave_17 (by decide) ?_
    refine r_callS (rest := []) (stk1 := [.int (mo_within a3 0 2)]) hC d_mo_wave_18 (c_mo_within G st a3 0 2) mw_mo_within ms_mo_within ml_mo_93 rfl rfl rfl (Nat.le_of_ble_eq_true rfl) rfl ?_
    refine r_if_eq (tgt := 34) hC d_mo_wave_21 (by decide) (fun c_21 => ?_) (fun c_21 => ?_)
    ·
      refine r_sipush (v := (-10102)) hC d_mo_wave_34 (by decide) ?_
      exact r_iret hC hR d_mo_wave_37 rfl rfl
    ·
      refine r_aload_n 0 hC d_mo_wave_24 rfl ?_
      refine r_iload_n 1 hC d_mo_wave_25 rfl ?_
      refine r_iload_n 2 hC d_mo_wave_26 rfl ?_
      refine r_iload_n 3 hC d_mo_wave_27 rfl ?_
      refine r_callV (o := 49) (rest := []) (stk1 := [.int (mo_waveNow st a1 a2 a3)]) hC d_mo_wave_28 (c_mo_waveNow G st a1 a2 a3 (mo_isWave_in hI c_6).1 (mo_isWave_in hI c_6).2 (mo_within_in (by decide) c_21)) mw_mo_waveNow mi_mo_waveNow mz_mo_waveNow ml_mo_164 rfl rfl rfl rfl rfl (Nat.le_of_ble_eq_true rfl) rfl ?_
      refine r_goto (tgt := 37) hC d_mo_wave_31 (by decide) ?_
      exact r_iret hC hR d_mo_wave_37 rfl rfl
  ·
    refine r_sipush (v := (-10101)) hC d_mo_wave_9 (by decide) ?_
    refine r_goto (tgt := 37) hC d_mo_wave_12 (by decide) ?_
    exact r_iret hC hR d_mo_wave_37 rfl rfl
/-! TideTableModel.as(II)I -/
def mo_as (st : tt_St) (a1 : Int32) (a2 : Int32) : Int32 := (if (mo_isPort st a1) = 0 then (-10101) else (if (mo_within a2 0 4) = 0 then (-10102) else (if a2 = 0 then a1 else (if (tt_A st 50 (Int32.toNatClampNeg a1)) = a2 then a1 else (if a2 = 1 then (if (tt_A st 50 (Int32.toNatClampNeg a1)) = 2 then a1 else (-10001)) else (-10001))))))
set_option maxHeartbeats 4000000 in
set_option maxRecDepth 20000 in
theorem c_mo_as (G : tt_G) (st : tt_St) (a1 : Int32) (a2 : Int32) (hI : mo_ok st) : tt_C y_mo_as prog_7_method_26_code 4 (some .int) 2 43 G [.ref (tt_ad G 49), .int a1, .int a2] st (some (.int (mo_as st a1 a2))) st := by
  refine tt_enter (α := Int32) (mk := fun r => (some (.int r), st)) (T := (mo_as st a1 a2)) (by decide +kernel) (Nat.le_of_ble_eq_true rfl) (fun κ hC hR => ?_)
  rw [mo_as]
  refine r_aload_n 0 hC d_mo_as_0 rfl ?_
  refine r_iload_n 1 hC d_mo_as_1 rfl ?_
  refine r_callV (o := 49) (rest := []) (stk1 := [.int (mo_isPort st a1)]) hC d_mo_as_2 (c_mo_isPort G st a1) mw_mo_isPort mi_mo_isPort mz_mo_isPort ml_mo_147 rfl rfl rfl rfl rfl (Nat.le_of_ble_eq_true rfl) rfl ?_
  refine r_if_ne (tgt := 12) hC d_mo_as_5 (by decide) (fun c_5 => ?_) (fun c_5 => ?_)
  ·
    refine r_iload_n 2 hC d_mo_as_12 rfl ?_
    refine r_iconst (v := 0) hC d_mo_as_13 (by decide) ?_
    refine r_iconst (v := 4) hC d_mo_as_14 (by decide) ?_
    refine r_callS (rest := []) (stk1 := [.int (mo_within a2 0 4)]) hC d_mo_as_15 (c_mo_within G st a2 0 4) mw_mo_within ms_mo_within ml_mo_93 rfl rfl rfl (Nat.le_of_ble_eq_true rfl) rfl ?_
    refine r_if_ne (tgt := 25) hC d_mo_as_18 (by decide) (fun c_18 => ?_) (fun c_18 => ?_)
    ·
      refine r_aload_n 0 hC d_mo_as_25 rfl ?_
      refine r_getR (r := 50) hC d_mo_as_26 fl_mo_7 rfl rfl rfl ?_
      refine r_iload_n 1 hC d_mo_as_29 rfl ?_
      refine r_iald hC d_mo_as_30 rfl (by decide) rfl rfl (mo_isPort_in hI c_5) ?_
      refine r_istore_n [(3, .int (tt_A st 50 (Int32.toNatClampNeg a1))), (0, .ref (tt_ad G 49)), (1, .int a1), (2, .int a2)] hC d_mo_as_31 rfl (by decide) rfl ?_
      refine r_iload_n 3 hC d_mo_as_32 rfl ?_
      refine r_if_eq (tgt := 51) hC d_mo_as_33 (by decide) (fun c_33 => ?_) (fun c_33 => ?_)
      ·
        refine r_iload_n 2 hC d_mo_as_51 rfl ?_
        refine r_goto (tgt := 58) hC d_mo_as_52 (by decide) ?_
        exact r_iret hC hR d_mo_as_58 rfl rfl
      ·
        refine r_iload_n 0 hC d_mo_as_36 rfl ?_
        refine r_iload_n 3 hC d_mo_as_37 rfl ?_
        refine r_icmp_eq (tgt := 51) hC d_mo_as_38 (by decide) (fun c_38 => ?_) (fun c_38 => ?_)
        ·
          refine r_iload_n 2 hC d_mo_as_51 rfl ?_
          refine r_goto (tgt := 58) hC d_mo_as_52 (by decide) ?_
          exact r_iret hC hR d_mo_as_58 rfl rfl
        ·
          refine r_iload_n 3 hC d_mo_as_41 rfl ?_
          refine r_iconst (v := 1) hC d_mo_as_42 (by decide) ?_
          refine r_icmp_ne (tgt := 55) hC d_mo_as_43 (by decide) (fun c_43 => ?_) (fun c_43 => ?_)
          ·
            refine r_sipush (v := (-10001)) hC d_mo_as_55 (by decide) ?_
            exact r_iret hC hR d_mo_as_58 rfl rfl
          ·
            refine r_iload_n 0 hC d_mo_as_46 rfl ?_
            refine r_iconst (v := 2) hC d_mo_as_47 (by decide) ?_
            refine r_icmp_ne (tgt := 55) hC d_mo_as_48 (by decide) (fun c_48 => ?_) (fun c_48 => ?_)
            ·
              refine r_sipush (v := (-10001)) hC d_mo_as_55 (by decide) ?_
              exact r_iret hC hR d_mo_as_58 rfl rfl
            ·
              refine r_iload_n 2 hC d_mo_as_51 rfl ?_
              refine r_goto (tgt := 58) hC d_mo_as_52 (by decide) ?_
              exact r_iret hC hR d_mo_as_58 rfl rfl
    ·
      refine r_sipush (v := (-10102)) hC d_mo_as_21 (by decide) ?_
      exact r_iret hC hR d_mo_as_24 rfl rfl
  ·
    refine r_sipush (v := (-10101)) hC d_mo_as_8 (by decide) ?_
    exact r_iret hC hR d_mo_as_11 rfl rfl
/-! TideTableModel.turnAt(I)I -/
def mo_turnAt (st : tt_St) (a1 : Int32) : Int32 := (mo_by (((tt_A st 56 (Int32.toNatClampNeg (a1 / 16))) * (16 - (a1 - a1 / 16 * 16))) + ((tt_A st 56 (Int32.toNatClampNeg ((a1 / 16) + 1))) * (a1 - a1 / 16 * 16))) 16)
set_option maxHeartbeats 4000000 in
set_option maxRecDepth 20000 in
theorem c_mo_turnAt (G : tt_G) (st : tt_St) (a1 : Int32) (ha : vp_in a1 1024) : tt_C y_mo_turnAt prog_7_method_28_code 4 (some .int) 1 22 G [.ref (tt_ad G 49), .int a1] st (some (.int (mo_turnAt st a1))) st := by
  refine tt_enter (α := Int32) (mk := fun r => (some (.int r), st)) (T := (mo_turnAt st a1)) (by decide +kernel) (Nat.le_of_ble_eq_true rfl) (fun κ hC hR => ?_)
  rw [mo_turnAt]
  refine r_iload_n 1 hC d_mo_turnAt_0 rfl ?_
  refine r_bipush (v := 16) hC d_mo_turnAt_1 (by decide) ?_
  refine r_idiv hC d_mo_turnAt_3 (by decide) ?_
  refine r_istore_n [(2, .int (a1 / 16)), (0, .ref (tt_ad G 49)), (1, .int a1)] hC d_mo_turnAt_4 rfl (by decide) rfl ?_
  refine r_iload_n 2 hC d_mo_turnAt_5 rfl ?_
  refine r_bipush (v := 16) hC d_mo_turnAt_6 (by decide) ?_
  refine r_irem hC d_mo_turnAt_8 (by decide) ?_
  refine r_istore_n [(3, .int (a1 - a1 / 16 * 16)), (2, .int (a1 / 16)), (0, .ref (tt_ad G 49)), (1, .int a1)] hC d_mo_turnAt_9 rfl (by decide) rfl ?_
  refine r_aload_n 2 hC d_mo_turnAt_10 rfl ?_
  refine r_getR (r := 56) hC d_mo_turnAt_11 fl_mo_28 rfl rfl rfl ?_
  refine r_iload_n 1 hC d_mo_turnAt_14 rfl ?_
  refine r_iald hC d_mo_turnAt_15 rfl (by decide) rfl rfl (tt_ix16 ha).1 ?_
  refine r_bipush (v := 16) hC d_mo_turnAt_16 (by decide) ?_
  refine r_iload_n 0 hC d_mo_turnAt_18 rfl ?_
  refine r_isub hC d_mo_turnAt_19 ?_
  refine r_imul hC d_mo_turnAt_20 ?_
  refine r_aload_n 2 hC d_mo_turnAt_21 rfl ?_
  refine r_getR (r := 56) hC d_mo_turnAt_22 fl_mo_28 rfl rfl rfl ?_
  refine r_iload_n 1 hC d_mo_turnAt_25 rfl ?_
  refine r_iconst (v := 1) hC d_mo_turnAt_26 (by decide) ?_
  refine r_iadd hC d_mo_turnAt_27 ?_
  refine r_iald hC d_mo_turnAt_28 rfl (by decide) rfl rfl (tt_ix16 ha).2 ?_
  refine r_iload_n 0 hC d_mo_turnAt_29 rfl ?_
  refine r_imul hC d_mo_turnAt_30 ?_
  refine r_iadd hC d_mo_turnAt_31 ?_
  refine r_bipush (v := 16) hC d_mo_turnAt_32 (by decide) ?_
  refine r_callS (rest := []) (stk1 := [.int (mo_by (((tt_A st 56 (Int32.toNatClampNeg (a1 / 16))) * (16 - (a1 - a1 / 16 * 16))) + ((tt_A st 56 (Int32.toNatClampNeg ((a1 / 16) + 1))) * (a1 - a1 / 16 * 16))) 16)]) hC d_mo_turnAt_34 (c_mo_by G st (((tt_A st 56 (Int32.toNatClampNeg (a1 / 16))) * (16 - (a1 - a1 / 16 * 16))) + ((tt_A st 56 (Int32.toNatClampNeg ((a1 / 16) + 1))) * (a1 - a1 / 16 * 16))) 16 (by decide)) mw_mo_by ms_mo_by ml_mo_167 rfl rfl rfl (Nat.le_of_ble_eq_true rfl) rfl ?_
  exact r_iret hC hR d_mo_turnAt_37 rfl rfl
/-! TideTableModel.sumAt(II)I -/
def mo_sumAt_l13 (st : tt_St) (a1 : Int32) (a2 : Int32) : Nat → Nat → Int32 → Int32
  | 0, j, x3 => x3
  | n + 1, j, x3 => (mo_sumAt_l13 st a1 a2 n (j + 1) (x3 + (mo_by ((mo_waveNow st a1 (nI j) 1) * (mo_turnAt st ((((((mo_waveNow st a1 (nI j) 0) * a2) + (16 * (mo_waveNow st a1 (nI j) 2))) - (((mo_waveNow st a1 (nI j) 0) * a2) + (16 * (mo_waveNow st a1 (nI j) 2))) / 1024 * 1024) + 1024) - (((((mo_waveNow st a1 (nI j) 0) * a2) + (16 * (mo_waveNow st a1 (nI j) 2))) - (((mo_waveNow st a1 (nI j) 0) * a2) + (16 * (mo_waveNow st a1 (nI j) 2))) / 1024 * 1024) + 1024) / 1024 * 1024))) 100)))
set_option maxHeartbeats 4000000 in
set_option maxRecDepth 20000 in
theorem l_mo_sumAt_13 {α : Type} {G : tt_G} {κ : tt_X α} {T : α} (hC : tt_Cx G κ prog_7_method_29_code "TideTableModel" 7 2 45) (st : tt_St) (a1 : Int32) (a2 : Int32) (hI : mo_ok st) (hp : vp_in a1 4) (hN : (Int32.toNatClampNeg (tt_A st 54 (Int32.toNatClampNeg a1))) ≤ 3) : ∀ (n j : Nat) (x3 : Int32), j + n = (Int32.toNatClampNeg (tt_A st 54 (Int32.toNatClampNeg a1))) → tt_V G κ T st 93 [(3, .int (mo_sumAt_l13 st a1 a2 n j x3))] [] → tt_V G κ T st 13 [(0, .ref (tt_ad G 49)), (1, .int a1), (2, .int a2), (3, .int x3), (4, .int (nI j))] [] := by
  intro n
  induction n with
  | zero =>
    intro j x3 hj k
    refine r_iload 4 hC d_mo_sumAt_13 rfl ?_
    refine r_aload_n 0 hC d_mo_sumAt_15 rfl ?_
    refine r_getR (r := 54) hC d_mo_sumAt_16 fl_mo_22 rfl rfl rfl ?_
    refine r_iload_n 1 hC d_mo_sumAt_19 rfl ?_
    refine r_iald hC d_mo_sumAt_20 rfl (by decide) rfl rfl hp ?_
    refine t_icmp_ge (tgt := 93) hC d_mo_sumAt_21 (by decide) (tt_end (hI.2.2.2 _ (tt_inN hp)).1 (by omega) (by omega)) ?_
    exact tt_cast [3] rfl rfl k
  | succ n ih =>
    intro j x3 hj k
    refine r_iload 4 hC d_mo_sumAt_13 rfl ?_
    refine r_aload_n 0 hC d_mo_sumAt_15 rfl ?_
    refine r_getR (r := 54) hC d_mo_sumAt_16 fl_mo_22 rfl rfl rfl ?_
    refine r_iload_n 1 hC d_mo_sumAt_19 rfl ?_
    refine r_iald hC d_mo_sumAt_20 rfl (by decide) rfl rfl hp ?_
    refine f_icmp_ge (tgt := 93) hC d_mo_sumAt_21 (by decide) (tt_stay (by omega)) ?_
    refine r_aload_n 0 hC d_mo_sumAt_24 rfl ?_
    refine r_iload_n 1 hC d_mo_sumAt_25 rfl ?_
    refine r_iload 4 hC d_mo_sumAt_26 rfl ?_
    refine r_iconst (v := 0) hC d_mo_sumAt_28 (by decide) ?_
    refine r_callV (o := 49) (rest := []) (stk1 := [.int (mo_waveNow st a1 (nI j) 0)]) hC d_mo_sumAt_29 (c_mo_waveNow G st a1 (nI j) 0 hp (vp_in_nI (by omega) (by omega)) (by unfold vp_in; decide)) mw_mo_waveNow mi_mo_waveNow mz_mo_waveNow ml_mo_164 rfl rfl rfl rfl rfl (Nat.le_of_ble_eq_true rfl) rfl ?_
    refine r_iload_n 2 hC d_mo_sumAt_32 rfl ?_
    refine r_imul hC d_mo_sumAt_33 ?_
    refine r_bipush (v := 16) hC d_mo_sumAt_34 (by decide) ?_
    refine r_aload_n 0 hC d_mo_sumAt_36 rfl ?_
    refine r_iload_n 1 hC d_mo_sumAt_37 rfl ?_
    refine r_iload 4 hC d_mo_sumAt_38 rfl ?_
    refine r_iconst (v := 2) hC d_mo_sumAt_40 (by decide) ?_
    refine r_callV (o := 49) (rest := [.int 16, .int ((mo_waveNow st a1 (nI j) 0) * a2)]) (stk1 := [.int (mo_waveNow st a1 (nI j) 2), .int 16, .int ((mo_waveNow st a1 (nI j) 0) * a2)]) hC d_mo_sumAt_41 (c_mo_waveNow G st a1 (nI j) 2 hp (vp_in_nI (by omega) (by omega)) (by unfold vp_in; decide)) mw_mo_waveNow mi_mo_waveNow mz_mo_waveNow ml_mo_164 rfl rfl rfl rfl rfl (Nat.le_of_ble_eq_true rfl) rfl ?_
    refine r_imul hC d_mo_sumAt_44 ?_
    refine r_iadd hC d_mo_sumAt_45 ?_
    refine r_istore [(5, .int (((mo_waveNow st a1 (nI j) 0) * a2) + (16 * (mo_waveNow st a1 (nI j) 2)))), (0, .ref (tt_ad G 49)), (1, .int a1), (2, .int a2), (3, .int x3), (4, .int (nI j))] hC d_mo_sumAt_46 (by decide) rfl ?_
    refine r_iload 0 hC d_mo_sumAt_48 rfl ?_
    refine r_sipush (v := 1024) hC d_mo_sumAt_50 (by decide) ?_
    refine r_irem hC d_mo_sumAt_53 (by decide) ?_
    refine r_sipush (v := 1024) hC d_mo_sumAt_54 (by decide) ?_
    refine r_iadd hC d_mo_sumAt_57 ?_
    refine r_sipush (v := 1024) hC d_mo_sumAt_58 (by decide) ?_
    refine r_irem hC d_mo_sumAt_61 (by decide) ?_
    refine r_istore [(6, .int ((((((mo_waveNow st a1 (nI j) 0) * a2) + (16 * (mo_waveNow st a1 (nI j) 2))) - (((mo_waveNow st a1 (nI j) 0) * a2) + (16 * (mo_waveNow st a1 (nI j) 2))) / 1024 * 1024) + 1024) - (((((mo_waveNow st a1 (nI j) 0) * a2) + (16 * (mo_waveNow st a1 (nI j) 2))) - (((mo_waveNow st a1 (nI j) 0) * a2) + (16 * (mo_waveNow st a1 (nI j) 2))) / 1024 * 1024) + 1024) / 1024 * 1024)), (5, .int (((mo_waveNow st a1 (nI j) 0) * a2) + (16 * (mo_waveNow st a1 (nI j) 2)))), (0, .ref (tt_ad G 49)), (1, .int a1), (2, .int a2), (3, .int x3), (4, .int (nI j))] hC d_mo_sumAt_62 (by decide) rfl ?_
    refine r_iload_n 5 hC d_mo_sumAt_64 rfl ?_
    refine r_aload_n 2 hC d_mo_sumAt_65 rfl ?_
    refine r_iload_n 3 hC d_mo_sumAt_66 rfl ?_
    refine r_iload 6 hC d_mo_sumAt_67 rfl ?_
    refine r_iconst (v := 1) hC d_mo_sumAt_69 (by decide) ?_
    refine r_callV (o := 49) (rest := [.int x3]) (stk1 := [.int (mo_waveNow st a1 (nI j) 1), .int x3]) hC d_mo_sumAt_70 (c_mo_waveNow G st a1 (nI j) 1 hp (vp_in_nI (by omega) (by omega)) (by unfold vp_in; decide)) mw_mo_waveNow mi_mo_waveNow mz_mo_waveNow ml_mo_164 rfl rfl rfl rfl rfl (Nat.le_of_ble_eq_true rfl) rfl ?_
    refine r_aload_n 2 hC d_mo_sumAt_73 rfl ?_
    refine r_iload 0 hC d_mo_sumAt_74 rfl ?_
    refine r_callV (o := 49) (rest := [.int (mo_waveNow st a1 (nI j) 1), .int x3]) (stk1 := [.int (mo_turnAt st ((((((mo_waveNow st a1 (nI j) 0) * a2) + (16 * (mo_waveNow st a1 (nI j) 2))) - (((mo_waveNow st a1 (nI j) 0) * a2) + (16 * (mo_waveNow st a1 (nI j) 2))) / 1024 * 1024) + 1024) - (((((mo_waveNow st a1 (nI j) 0) * a2) + (16 * (mo_waveNow st a1 (nI j) 2))) - (((mo_waveNow st a1 (nI j) 0) * a2) + (16 * (mo_waveNow st a1 (nI j) 2))) / 1024 * 1024) + 1024) / 1024 * 1024)), .int (mo_waveNow st a1 (nI j) 1), .int x3]) hC d_mo_sumAt_76 (c_mo_turnAt G st ((((((mo_waveNow st a1 (nI j) 0) * a2) + (16 * (mo_waveNow st a1 (nI j) 2))) - (((mo_waveNow st a1 (nI j) 0) * a2) + (16 * (mo_waveNow st a1 (nI j) 2))) / 1024 * 1024) + 1024) - (((((mo_waveNow st a1 (nI j) 0) * a2) + (16 * (mo_waveNow st a1 (nI j) 2))) - (((mo_waveNow st a1 (nI j) 0) * a2) + (16 * (mo_waveNow st a1 (nI j) 2))) / 1024 * 1024) + 1024) / 1024 * 1024) (tt_in (tt_wrap (by decide) (by decide)).1 (tt_wrap (by decide) (by decide)).2)) mw_mo_turnAt mi_mo_turnAt mz_mo_turnAt ml_mo_170 rfl rfl rfl rfl rfl (Nat.le_of_ble_eq_true rfl) rfl ?_
    refine r_imul hC d_mo_sumAt_79 ?_
    refine r_bipush (v := 100) hC d_mo_sumAt_80 (by decide) ?_
    refine r_callS (rest := [.int x3]) (stk1 := [.int (mo_by ((mo_waveNow st a1 (nI j) 1) * (mo_turnAt st ((((((mo_waveNow st a1 (nI j) 0) * a2) + (16 * (mo_waveNow st a1 (nI j) 2))) - (((mo_waveNow st a1 (nI j) 0) * a2) + (16 * (mo_waveNow st a1 (nI j) 2))) / 1024 * 1024) + 1024) - (((((mo_waveNow st a1 (nI j) 0) * a2) + (16 * (mo_waveNow st a1 (nI j) 2))) - (((mo_waveNow st a1 (nI j) 0) * a2) + (16 * (mo_waveNow st a1 (nI j) 2))) / 1024 * 1024) + 1024) / 1024 * 1024))) 100), .int x3]) hC d_mo_sumAt_82 (c_mo_by G st ((mo_waveNow st a1 (nI j) 1) * (mo_turnAt st ((((((mo_waveNow st a1 (nI j) 0) * a2) + (16 * (mo_waveNow st a1 (nI j) 2))) - (((mo_waveNow st a1 (nI j) 0) * a2) + (16 * (mo_waveNow st a1 (nI j) 2))) / 1024 * 1024) + 1024) - (((((mo_waveNow st a1 (nI j) 0) * a2) + (16 * (mo_waveNow st a1 (nI j) 2))) - (((mo_waveNow st a1 (nI j) 0) * a2) + (16 * (mo_waveNow st a1 (nI j) 2))) / 1024 * 1024) + 1024) / 1024 * 1024))) 100 (by decide)) mw_mo_by ms_mo_by ml_mo_167 rfl rfl rfl (Nat.le_of_ble_eq_true rfl) rfl ?_
    refine r_iadd hC d_mo_sumAt_85 ?_
    refine r_istore_n [(3, .int (x3 + (mo_by ((mo_waveNow st a1 (nI j) 1) * (mo_turnAt st ((((((mo_waveNow st a1 (nI j) 0) * a2) + (16 * (mo_waveNow st a1 (nI j) 2))) - (((mo_waveNow st a1 (nI j) 0) * a2) + (16 * (mo_waveNow st a1 (nI j) 2))) / 1024 * 1024) + 1024) - (((((mo_waveNow st a1 (nI j) 0) * a2) + (16 * (mo_waveNow st a1 (nI j) 2))) - (((mo_waveNow st a1 (nI j) 0) * a2) + (16 * (mo_waveNow st a1 (nI j) 2))) / 1024 * 1024) + 1024) / 1024 * 1024))) 100))), (6, .int ((((((mo_waveNow st a1 (nI j) 0) * a2) + (16 * (mo_waveNow st a1 (nI j) 2))) - (((mo_waveNow st a1 (nI j) 0) * a2) + (16 * (mo_waveNow st a1 (nI j) 2))) / 1024 * 1024) + 1024) - (((((mo_waveNow st a1 (nI j) 0) * a2) + (16 * (mo_waveNow st a1 (nI j) 2))) - (((mo_waveNow st a1 (nI j) 0) * a2) + (16 * (mo_waveNow st a1 (nI j) 2))) / 1024 * 1024) + 1024) / 1024 * 1024)), (5, .int (((mo_waveNow st a1 (nI j) 0) * a2) + (16 * (mo_waveNow st a1 (nI j) 2)))), (0, .ref (tt_ad G 49)), (1, .int a1), (2, .int a2), (4, .int (nI j))] hC d_mo_sumAt_86 rfl (by decide) rfl ?_
    refine r_iinc 6 (nI (j + 1)) [(4, .int (nI (j + 1))), (3, .int (x3 + (mo_by ((mo_waveNow st a1 (nI j) 1) * (mo_turnAt st ((((((mo_waveNow st a1 (nI j) 0) * a2) + (16 * (mo_waveNow st a1 (nI j) 2))) - (((mo_waveNow st a1 (nI j) 0) * a2) + (16 * (mo_waveNow st a1 (nI j) 2))) / 1024 * 1024) + 1024) - (((((mo_waveNow st a1 (nI j) 0) * a2) + (16 * (mo_waveNow st a1 (nI j) 2))) - (((mo_waveNow st a1 (nI j) 0) * a2) + (16 * (mo_waveNow st a1 (nI j) 2))) / 1024 * 1024) + 1024) / 1024 * 1024))) 100))), (6, .int ((((((mo_waveNow st a1 (nI j) 0) * a2) + (16 * (mo_waveNow st a1 (nI j) 2))) - (((mo_waveNow st a1 (nI j) 0) * a2) + (16 * (mo_waveNow st a1 (nI j) 2))) / 1024 * 1024) + 1024) - (((((mo_waveNow st a1 (nI j) 0) * a2) + (16 * (mo_waveNow st a1 (nI j) 2))) - (((mo_waveNow st a1 (nI j) 0) * a2) + (16 * (mo_waveNow st a1 (nI j) 2))) / 1024 * 1024) + 1024) / 1024 * 1024)), (5, .int (((mo_waveNow st a1 (nI j) 0) * a2) + (16 * (mo_waveNow st a1 (nI j) 2)))), (0, .ref (tt_ad G 49)), (1, .int a1), (2, .int a2)] hC d_mo_sumAt_87 rfl (by rw [nI_succ]; rfl) (by decide) rfl ?_
    refine r_goto (tgt := 13) hC d_mo_sumAt_90 (by decide) ?_
    exact tt_cast [4, 5, 6, 1, 0] rfl rfl (ih (j + 1) (x3 + (mo_by ((mo_waveNow st a1 (nI j) 1) * (mo_turnAt st ((((((mo_waveNow st a1 (nI j) 0) * a2) + (16 * (mo_waveNow st a1 (nI j) 2))) - (((mo_waveNow st a1 (nI j) 0) * a2) + (16 * (mo_waveNow st a1 (nI j) 2))) / 1024 * 1024) + 1024) - (((((mo_waveNow st a1 (nI j) 0) * a2) + (16 * (mo_waveNow st a1 (nI j) 2))) - (((mo_waveNow st a1 (nI j) 0) * a2) + (16 * (mo_waveNow st a1 (nI j) 2))) / 1024 * 1024) + 1024) / 1024 * 1024))) 100)) (by omega) (by simpa only [mo_sumAt_l13] using k))
def mo_sumAt (st : tt_St) (a1 : Int32) (a2 : Int32) : Int32 := (mo_sumAt_l13 st a1 a2 (Int32.toNatClampNeg (tt_A st 54 (Int32.toNatClampNeg a1))) 0 (10 * (tt_A st 51 (Int32.toNatClampNeg a1))))
set_option maxHeartbeats 4000000 in
set_option maxRecDepth 20000 in
theorem c_mo_sumAt (G : tt_G) (st : tt_St) (a1 : Int32) (a2 : Int32) (hI : mo_ok st) (hp : vp_in a1 4) : tt_C y_mo_sumAt prog_7_method_29_code 7 (some .int) 2 45 G [.ref (tt_ad G 49), .int a1, .int a2] st (some (.int (mo_sumAt st a1 a2))) st := by
  refine tt_enter (α := Int32) (mk := fun r => (some (.int r), st)) (T := (mo_sumAt st a1 a2)) (by decide +kernel) (Nat.le_of_ble_eq_true rfl) (fun κ hC hR => ?_)
  rw [mo_sumAt]
  refine r_bipush (v := 10) hC d_mo_sumAt_0 (by decide) ?_
  refine r_aload_n 0 hC d_mo_sumAt_2 rfl ?_
  refine r_getR (r := 51) hC d_mo_sumAt_3 fl_mo_13 rfl rfl rfl ?_
  refine r_iload_n 1 hC d_mo_sumAt_6 rfl ?_
  refine r_iald hC d_mo_sumAt_7 rfl (by decide) rfl rfl hp ?_
  refine r_imul hC d_mo_sumAt_8 ?_
  refine r_istore_n [(3, .int (10 * (tt_A st 51 (Int32.toNatClampNeg a1)))), (0, .ref (tt_ad G 49)), (1, .int a1), (2, .int a2)] hC d_mo_sumAt_9 rfl (by decide) rfl ?_
  refine r_iconst (v := 0) hC d_mo_sumAt_10 (by decide) ?_
  refine r_istore [(4, .int 0), (3, .int (10 * (tt_A st 51 (Int32.toNatClampNeg a1)))), (0, .ref (tt_ad G 49)), (1, .int a1), (2, .int a2)] hC d_mo_sumAt_11 (by decide) rfl ?_
  refine tt_cast [2, 3, 4, 1, 0] rfl rfl (l_mo_sumAt_13 hC st a1 a2 hI hp (tt_cle (hI.2.2.2 _ (tt_inN hp)).2) (Int32.toNatClampNeg (tt_A st 54 (Int32.toNatClampNeg a1))) 0 (10 * (tt_A st 51 (Int32.toNatClampNeg a1))) (by omega)  ?_)
  refine r_iload_n 0 hC d_mo_sumAt_93 rfl ?_
  exact r_iret hC hR d_mo_sumAt_94 rfl rfl
/-! TideTableModel.silled(II)I -/
def mo_silled (st : tt_St) (a1 : Int32) (a2 : Int32) : Int32 := (if (mo_sumAt st a1 a2) ≤ (10 * (tt_A st 52 (Int32.toNatClampNeg a1))) then (10 * (tt_A st 52 (Int32.toNatClampNeg a1))) else (mo_sumAt st a1 a2))
set_option maxHeartbeats 4000000 in
set_option maxRecDepth 20000 in
theorem c_mo_silled (G : tt_G) (st : tt_St) (a1 : Int32) (a2 : Int32) (hI : mo_ok st) (hp : vp_in a1 4) : tt_C y_mo_silled prog_7_method_30_code 4 (some .int) 3 71 G [.ref (tt_ad G 49), .int a1, .int a2] st (some (.int (mo_silled st a1 a2))) st := by
  refine tt_enter (α := Int32) (mk := fun r => (some (.int r), st)) (T := (mo_silled st a1 a2)) (by decide +kernel) (Nat.le_of_ble_eq_true rfl) (fun κ hC hR => ?_)
  rw [mo_silled]
  refine r_aload_n 0 hC d_mo_silled_0 rfl ?_
  refine r_iload_n 1 hC d_mo_silled_1 rfl ?_
  refine r_iload_n 2 hC d_mo_silled_2 rfl ?_
  refine r_callV (o := 49) (rest := []) (stk1 := [.int (mo_sumAt st a1 a2)]) hC d_mo_silled_3 (c_mo_sumAt G st a1 a2 hI hp) mw_mo_sumAt mi_mo_sumAt mz_mo_sumAt ml_mo_173 rfl rfl rfl rfl rfl (Nat.le_of_ble_eq_true rfl) rfl ?_
  refine r_istore_n [(3, .int (mo_sumAt st a1 a2)), (0, .ref (tt_ad G 49)), (1, .int a1), (2, .int a2)] hC d_mo_silled_6 rfl (by decide) rfl ?_
  refine r_iload_n 0 hC d_mo_silled_7 rfl ?_
  refine r_bipush (v := 10) hC d_mo_silled_8 (by decide) ?_
  refine r_aload_n 1 hC d_mo_silled_10 rfl ?_
  refine r_getR (r := 52) hC d_mo_silled_11 fl_mo_16 rfl rfl rfl ?_
  refine r_iload_n 2 hC d_mo_silled_14 rfl ?_
  refine r_iald hC d_mo_silled_15 rfl (by decide) rfl rfl hp ?_
  refine r_imul hC d_mo_silled_16 ?_
  refine r_icmp_le (tgt := 24) hC d_mo_silled_17 (by decide) (fun c_17 => ?_) (fun c_17 => ?_)
  ·
    refine r_bipush (v := 10) hC d_mo_silled_24 (by decide) ?_
    refine r_aload_n 1 hC d_mo_silled_26 rfl ?_
    refine r_getR (r := 52) hC d_mo_silled_27 fl_mo_16 rfl rfl rfl ?_
    refine r_iload_n 2 hC d_mo_silled_30 rfl ?_
    refine r_iald hC d_mo_silled_31 rfl (by decide) rfl rfl hp ?_
    refine r_imul hC d_mo_silled_32 ?_
    exact r_iret hC hR d_mo_silled_33 rfl rfl
  ·
    refine r_iload_n 0 hC d_mo_silled_20 rfl ?_
    refine r_goto (tgt := 33) hC d_mo_silled_21 (by decide) ?_
    exact r_iret hC hR d_mo_silled_33 rfl rfl
/-! TideTableModel.ownHeight(II)I -/
def mo_ownHeight_l53 (st : tt_St) (a1 : Int32) (a2 : Int32) : Nat → Nat → Int32 → Int32
  | 0, j, x3 => x3
  | n + 1, j, x3 => (mo_ownHeight_l53 st a1 a2 n (j + 1) (if (mo_silled st a1 (a2 - (nI j))) ≤ x3 then x3 else (mo_silled st a1 (a2 - (nI j)))))
set_option maxHeartbeats 4000000 in
set_option maxRecDepth 20000 in
theorem l_mo_ownHeight_53 {α : Type} {G : tt_G} {κ : tt_X α} {T : α} (hC : tt_Cx G κ prog_7_method_31_code "TideTableModel" 6 4 94) (st : tt_St) (a1 : Int32) (a2 : Int32) (hI : mo_ok st) (hp : vp_in a1 4) : ∀ (n j : Nat) (x3 : Int32), j + n = 7 → tt_V G κ T st 90 [(3, .int (mo_ownHeight_l53 st a1 a2 n j x3))] [] → tt_V G κ T st 53 [(0, .ref (tt_ad G 49)), (1, .int a1), (2, .int a2), (3, .int x3), (4, .int (nI j))] [] := by
  intro n
  induction n with
  | zero =>
    intro j x3 hj k
    refine r_iload 4 hC d_mo_ownHeight_53 rfl ?_
    refine r_bipush (v := 6) hC d_mo_ownHeight_55 (by decide) ?_
    refine t_icmp_gt (tgt := 90) hC d_mo_ownHeight_57 (by decide) (nI_lt (a := 6) (by omega) (by omega)) ?_
    exact tt_cast [3] rfl rfl k
  | succ n ih =>
    intro j x3 hj k
    refine r_iload 4 hC d_mo_ownHeight_53 rfl ?_
    refine r_bipush (v := 6) hC d_mo_ownHeight_55 (by decide) ?_
    refine f_icmp_gt (tgt := 90) hC d_mo_ownHeight_57 (by decide) (nI_nlt (a := 6) (b := j) (by omega) (by omega)) ?_
    refine r_aload_n 0 hC d_mo_ownHeight_60 rfl ?_
    refine r_iload_n 1 hC d_mo_ownHeight_61 rfl ?_
    refine r_iload_n 2 hC d_mo_ownHeight_62 rfl ?_
    refine r_iload 4 hC d_mo_ownHeight_63 rfl ?_
    refine r_isub hC d_mo_ownHeight_65 ?_
    refine r_callV (o := 49) (rest := []) (stk1 := [.int (mo_silled st a1 (a2 - (nI j)))]) hC d_mo_ownHeight_66 (c_mo_silled G st a1 (a2 - (nI j)) hI hp) mw_mo_silled mi_mo_silled mz_mo_silled ml_mo_176 rfl rfl rfl rfl rfl (Nat.le_of_ble_eq_true rfl) rfl ?_
    refine r_istore [(5, .int (mo_silled st a1 (a2 - (nI j)))), (0, .ref (tt_ad G 49)), (1, .int a1), (2, .int a2), (3, .int x3), (4, .int (nI j))] hC d_mo_ownHeight_69 (by decide) rfl ?_
    refine r_iload 0 hC d_mo_ownHeight_71 rfl ?_
    refine r_iload_n 4 hC d_mo_ownHeight_73 rfl ?_
    refine tt_join 83 [(0, .ref (tt_ad G 49)), (1, .int a1), (2, .int a2), (4, .int (nI j))] [.int (if (mo_silled st a1 (a2 - (nI j))) ≤ x3 then x3 else (mo_silled st a1 (a2 - (nI j))))] ?_ (fun kj_74 => ?_)
    ·
      refine r_istore_n [(3, .int (if (mo_silled st a1 (a2 - (nI j))) ≤ x3 then x3 else (mo_silled st a1 (a2 - (nI j))))), (0, .ref (tt_ad G 49)), (1, .int a1), (2, .int a2), (4, .int (nI j))] hC d_mo_ownHeight_83 rfl (by decide) rfl ?_
      refine r_iinc 4 (nI (j + 1)) [(4, .int (nI (j + 1))), (3, .int (if (mo_silled st a1 (a2 - (nI j))) ≤ x3 then x3 else (mo_silled st a1 (a2 - (nI j))))), (0, .ref (tt_ad G 49)), (1, .int a1), (2, .int a2)] hC d_mo_ownHeight_84 rfl (by rw [nI_succ]; rfl) (by decide) rfl ?_
      refine r_goto (tgt := 53) hC d_mo_ownHeight_87 (by decide) ?_
      exact tt_cast [2, 3, 4, 1, 0] rfl rfl (ih (j + 1) (if (mo_silled st a1 (a2 - (nI j))) ≤ x3 then x3 else (mo_silled st a1 (a2 - (nI j)))) (by omega) (by simpa only [mo_ownHeight_l53] using k))
    ·
      refine j_icmp_le (tgt := 82) hC d_mo_ownHeight_74 (by decide) (fun c_74 => ?_) (fun c_74 => ?_)
      ·
        refine r_iload_n 4 hC d_mo_ownHeight_82 rfl ?_
        exact tt_cast [1, 2, 3, 5] rfl (by simp only [if_pos c_74]) kj_74
      ·
        refine r_iload 0 hC d_mo_ownHeight_77 rfl ?_
        refine r_goto (tgt := 83) hC d_mo_ownHeight_79 (by decide) ?_
        exact tt_cast [1, 2, 3, 5] rfl (by simp only [if_neg c_74]) kj_74
def mo_ownHeight (st : tt_St) (a1 : Int32) (a2 : Int32) : Int32 := (if (tt_A st 50 (Int32.toNatClampNeg a1)) = 1 then (mo_silled st a1 a2) else (if (tt_A st 50 (Int32.toNatClampNeg a1)) = 2 then (mo_ownHeight_l53 st a1 a2 6 1 (mo_silled st a1 a2)) else (if (tt_A st 50 (Int32.toNatClampNeg a1)) = 3 then (mo_sumAt st a1 a2) else (if (tt_A st 50 (Int32.toNatClampNeg a1)) = 4 then (if ((mo_by a2 144) &&& 1) = 1 then ((mo_sumAt st a1 a2) + (tt_A st 52 (Int32.toNatClampNeg a1))) else ((mo_sumAt st a1 a2) + 0)) else (mo_sumAt st a1 a2)))))
set_option maxHeartbeats 4000000 in
set_option maxRecDepth 20000 in
theorem c_mo_ownHeight (G : tt_G) (st : tt_St) (a1 : Int32) (a2 : Int32) (hI : mo_ok st) (hp : vp_in a1 4) : tt_C y_mo_ownHeight prog_7_method_31_code 6 (some .int) 4 94 G [.ref (tt_ad G 49), .int a1, .int a2] st (some (.int (mo_ownHeight st a1 a2))) st := by
  refine tt_enter (α := Int32) (mk := fun r => (some (.int r), st)) (T := (mo_ownHeight st a1 a2)) (by decide +kernel) (Nat.le_of_ble_eq_true rfl) (fun κ hC hR => ?_)
  rw [mo_ownHeight]
  refine r_aload_n 0 hC d_mo_ownHeight_0 rfl ?_
  refine r_getR (r := 50) hC d_mo_ownHeight_1 fl_mo_7 rfl rfl rfl ?_
  refine r_iload_n 1 hC d_mo_ownHeight_4 rfl ?_
  refine r_iald hC d_mo_ownHeight_5 rfl (by decide) rfl rfl hp ?_
  refine tt_ite (c := (tt_A st 50 (Int32.toNatClampNeg a1)) = 1) (fun c_6_1 => ?_) (fun c_6_1 => ?_)
  ·
    refine r_tabIn (tgt := 36) (off := 30) hC d_mo_ownHeight_6 (by rw [c_6_1]; decide) (by rw [c_6_1]; decide) (by rw [c_6_1]; decide) (by decide) ?_
    refine r_aload_n 0 hC d_mo_ownHeight_36 rfl ?_
    refine r_iload_n 1 hC d_mo_ownHeight_37 rfl ?_
    refine r_iload_n 2 hC d_mo_ownHeight_38 rfl ?_
    refine r_callV (o := 49) (rest := []) (stk1 := [.int (mo_silled st a1 a2)]) hC d_mo_ownHeight_39 (c_mo_silled G st a1 a2 hI hp) mw_mo_silled mi_mo_silled mz_mo_silled ml_mo_176 rfl rfl rfl rfl rfl (Nat.le_of_ble_eq_true rfl) rfl ?_
    exact r_iret hC hR d_mo_ownHeight_42 rfl rfl
  ·
    refine tt_ite (c := (tt_A st 50 (Int32.toNatClampNeg a1)) = 2) (fun c_6_2 => ?_) (fun c_6_2 => ?_)
    ·
      refine r_tabIn (tgt := 43) (off := 37) hC d_mo_ownHeight_6 (by rw [c_6_2]; decide) (by rw [c_6_2]; decide) (by rw [c_6_2]; decide) (by decide) ?_
      refine r_aload_n 0 hC d_mo_ownHeight_43 rfl ?_
      refine r_iload_n 1 hC d_mo_ownHeight_44 rfl ?_
      refine r_iload_n 2 hC d_mo_ownHeight_45 rfl ?_
      refine r_callV (o := 49) (rest := []) (stk1 := [.int (mo_silled st a1 a2)]) hC d_mo_ownHeight_46 (c_mo_silled G st a1 a2 hI hp) mw_mo_silled mi_mo_silled mz_mo_silled ml_mo_176 rfl rfl rfl rfl rfl (Nat.le_of_ble_eq_true rfl) rfl ?_
      refine r_istore_n [(3, .int (mo_silled st a1 a2)), (0, .ref (tt_ad G 49)), (1, .int a1), (2, .int a2)] hC d_mo_ownHeight_49 rfl (by decide) rfl ?_
      refine r_iconst (v := 1) hC d_mo_ownHeight_50 (by decide) ?_
      refine r_istore [(4, .int 1), (3, .int (mo_silled st a1 a2)), (0, .ref (tt_ad G 49)), (1, .int a1), (2, .int a2)] hC d_mo_ownHeight_51 (by decide) rfl ?_
      refine tt_cast [2, 3, 4, 1, 0] rfl rfl (l_mo_ownHeight_53 hC st a1 a2 hI hp 6 1 (mo_silled st a1 a2) (by omega)  ?_)
      refine r_iload_n 0 hC d_mo_ownHeight_90 rfl ?_
      exact r_iret hC hR d_mo_ownHeight_91 rfl rfl
    ·
      refine tt_ite (c := (tt_A st 50 (Int32.toNatClampNeg a1)) = 3) (fun c_6_3 => ?_) (fun c_6_3 => ?_)
      ·
        refine r_tabIn (tgt := 123) (off := 117) hC d_mo_ownHeight_6 (by rw [c_6_3]; decide) (by rw [c_6_3]; decide) (by rw [c_6_3]; decide) (by decide) ?_
        refine r_aload_n 0 hC d_mo_ownHeight_123 rfl ?_
        refine r_iload_n 1 hC d_mo_ownHeight_124 rfl ?_
        refine r_iload_n 2 hC d_mo_ownHeight_125 rfl ?_
        refine r_callV (o := 49) (rest := []) (stk1 := [.int (mo_sumAt st a1 a2)]) hC d_mo_ownHeight_126 (c_mo_sumAt G st a1 a2 hI hp) mw_mo_sumAt mi_mo_sumAt mz_mo_sumAt ml_mo_173 rfl rfl rfl rfl rfl (Nat.le_of_ble_eq_true rfl) rfl ?_
        exact r_iret hC hR d_mo_ownHeight_129 rfl rfl
      ·
        refine tt_ite (c := (tt_A st 50 (Int32.toNatClampNeg a1)) = 4) (fun c_6_4 => ?_) (fun c_6_4 => ?_)
        ·
          refine r_tabIn (tgt := 92) (off := 86) hC d_mo_ownHeight_6 (by rw [c_6_4]; decide) (by rw [c_6_4]; decide) (by rw [c_6_4]; decide) (by decide) ?_
          refine r_aload_n 0 hC d_mo_ownHeight_92 rfl ?_
          refine r_iload_n 1 hC d_mo_ownHeight_93 rfl ?_
          refine r_iload_n 2 hC d_mo_ownHeight_94 rfl ?_
          refine r_callV (o := 49) (rest := []) (stk1 := [.int (mo_sumAt st a1 a2)]) hC d_mo_ownHeight_95 (c_mo_sumAt G st a1 a2 hI hp) mw_mo_sumAt mi_mo_sumAt mz_mo_sumAt ml_mo_173 rfl rfl rfl rfl rfl (Nat.le_of_ble_eq_true rfl) rfl ?_
          refine r_iload_n 2 hC d_mo_ownHeight_98 rfl ?_
          refine r_sipush (v := 144) hC d_mo_ownHeight_99 (by decide) ?_
          refine r_callS (rest := [.int (mo_sumAt st a1 a2)]) (stk1 := [.int (mo_by a2 144), .int (mo_sumAt st a1 a2)]) hC d_mo_ownHeight_102 (c_mo_by G st a2 144 (by decide)) mw_mo_by ms_mo_by ml_mo_167 rfl rfl rfl (Nat.le_of_ble_eq_true rfl) rfl ?_
          refine r_iconst (v := 1) hC d_mo_ownHeight_105 (by decide) ?_
          refine r_iand hC d_mo_ownHeight_106 ?_
          refine r_iconst (v := 1) hC d_mo_ownHeight_107 (by decide) ?_
          refine r_icmp_ne (tgt := 120) hC d_mo_ownHeight_108 (by decide) (fun c_108 => ?_) (fun c_108 => ?_)
          ·
            refine r_iconst (v := 0) hC d_mo_ownHeight_120 (by decide) ?_
            refine r_iadd hC d_mo_ownHeight_121 ?_
            exact r_iret hC hR d_mo_ownHeight_122 rfl rfl
          ·
            refine r_aload_n 0 hC d_mo_ownHeight_111 rfl ?_
            refine r_getR (r := 52) hC d_mo_ownHeight_112 fl_mo_16 rfl rfl rfl ?_
            refine r_iload_n 1 hC d_mo_ownHeight_115 rfl ?_
            refine r_iald hC d_mo_ownHeight_116 rfl (by decide) rfl rfl hp ?_
            refine r_goto (tgt := 121) hC d_mo_ownHeight_117 (by decide) ?_
            refine r_iadd hC d_mo_ownHeight_121 ?_
            exact r_iret hC hR d_mo_ownHeight_122 rfl rfl
        ·
          have nc_6_1 := lv_neT (a := 1) c_6_1 (by decide)
          have nc_6_2 := lv_neT (a := 2) c_6_2 (by decide)
          have nc_6_3 := lv_neT (a := 3) c_6_3 (by decide)
          have nc_6_4 := lv_neT (a := 4) c_6_4 (by decide)
          refine r_tabOut (tgt := 123) hC d_mo_ownHeight_6 (by omega) (by decide) ?_
          refine r_aload_n 0 hC d_mo_ownHeight_123 rfl ?_
          refine r_iload_n 1 hC d_mo_ownHeight_124 rfl ?_
          refine r_iload_n 2 hC d_mo_ownHeight_125 rfl ?_
          refine r_callV (o := 49) (rest := []) (stk1 := [.int (mo_sumAt st a1 a2)]) hC d_mo_ownHeight_126 (c_mo_sumAt G st a1 a2 hI hp) mw_mo_sumAt mi_mo_sumAt mz_mo_sumAt ml_mo_173 rfl rfl rfl rfl rfl (Nat.le_of_ble_eq_true rfl) rfl ?_
          exact r_iret hC hR d_mo_ownHeight_129 rfl rfl
/-! TideTableModel.heightAt(II)I -/
def mo_heightAt (st : tt_St) (a1 : Int32) (a2 : Int32) : Int32 := (if (tt_A st 50 (Int32.toNatClampNeg a1)) = 3 then ((mo_by ((mo_ownHeight st 0 (a2 - (tt_A st 52 (Int32.toNatClampNeg a1)))) * (tt_A st 53 (Int32.toNatClampNeg a1))) 100) + (10 * (tt_A st 51 (Int32.toNatClampNeg a1)))) else (mo_ownHeight st a1 a2))
set_option maxHeartbeats 4000000 in
set_option maxRecDepth 20000 in
theorem c_mo_heightAt (G : tt_G) (st : tt_St) (a1 : Int32) (a2 : Int32) (hI : mo_ok st) (hp : vp_in a1 4) : tt_C y_mo_heightAt prog_7_method_32_code 3 (some .int) 5 119 G [.ref (tt_ad G 49), .int a1, .int a2] st (some (.int (mo_heightAt st a1 a2))) st := by
  refine tt_enter (α := Int32) (mk := fun r => (some (.int r), st)) (T := (mo_heightAt st a1 a2)) (by decide +kernel) (Nat.le_of_ble_eq_true rfl) (fun κ hC hR => ?_)
  rw [mo_heightAt]
  refine r_aload_n 0 hC d_mo_heightAt_0 rfl ?_
  refine r_getR (r := 50) hC d_mo_heightAt_1 fl_mo_7 rfl rfl rfl ?_
  refine r_iload_n 1 hC d_mo_heightAt_4 rfl ?_
  refine r_iald hC d_mo_heightAt_5 rfl (by decide) rfl rfl hp ?_
  refine r_iconst (v := 3) hC d_mo_heightAt_6 (by decide) ?_
  refine r_icmp_eq (tgt := 17) hC d_mo_heightAt_7 (by decide) (fun c_7 => ?_) (fun c_7 => ?_)
  ·
    refine r_aload_n 0 hC d_mo_heightAt_17 rfl ?_
    refine r_iconst (v := 0) hC d_mo_heightAt_18 (by decide) ?_
    refine r_iload_n 2 hC d_mo_heightAt_19 rfl ?_
    refine r_aload_n 0 hC d_mo_heightAt_20 rfl ?_
    refine r_getR (r := 52) hC d_mo_heightAt_21 fl_mo_16 rfl rfl rfl ?_
    refine r_iload_n 1 hC d_mo_heightAt_24 rfl ?_
    refine r_iald hC d_mo_heightAt_25 rfl (by decide) rfl rfl hp ?_
    refine r_isub hC d_mo_heightAt_26 ?_
    refine r_callV (o := 49) (rest := []) (stk1 := [.int (mo_ownHeight st 0 (a2 - (tt_A st 52 (Int32.toNatClampNeg a1))))]) hC d_mo_heightAt_27 (c_mo_ownHeight G st 0 (a2 - (tt_A st 52 (Int32.toNatClampNeg a1))) hI (by unfold vp_in; decide)) mw_mo_ownHeight mi_mo_ownHeight mz_mo_ownHeight ml_mo_179 rfl rfl rfl rfl rfl (Nat.le_of_ble_eq_true rfl) rfl ?_
    refine r_aload_n 0 hC d_mo_heightAt_30 rfl ?_
    refine r_getR (r := 53) hC d_mo_heightAt_31 fl_mo_19 rfl rfl rfl ?_
    refine r_iload_n 1 hC d_mo_heightAt_34 rfl ?_
    refine r_iald hC d_mo_heightAt_35 rfl (by decide) rfl rfl hp ?_
    refine r_imul hC d_mo_heightAt_36 ?_
    refine r_bipush (v := 100) hC d_mo_heightAt_37 (by decide) ?_
    refine r_callS (rest := []) (stk1 := [.int (mo_by ((mo_ownHeight st 0 (a2 - (tt_A st 52 (Int32.toNatClampNeg a1)))) * (tt_A st 53 (Int32.toNatClampNeg a1))) 100)]) hC d_mo_heightAt_39 (c_mo_by G st ((mo_ownHeight st 0 (a2 - (tt_A st 52 (Int32.toNatClampNeg a1)))) * (tt_A st 53 (Int32.toNatClampNeg a1))) 100 (by decide)) mw_mo_by ms_mo_by ml_mo_167 rfl rfl rfl (Nat.le_of_ble_eq_true rfl) rfl ?_
    refine r_bipush (v := 10) hC d_mo_heightAt_42 (by decide) ?_
    refine r_aload_n 0 hC d_mo_heightAt_44 rfl ?_
    refine r_getR (r := 51) hC d_mo_heightAt_45 fl_mo_13 rfl rfl rfl ?_
    refine r_iload_n 1 hC d_mo_heightAt_48 rfl ?_
    refine r_iald hC d_mo_heightAt_49 rfl (by decide) rfl rfl hp ?_
    refine r_imul hC d_mo_heightAt_50 ?_
    refine r_iadd hC d_mo_heightAt_51 ?_
    exact r_iret hC hR d_mo_heightAt_52 rfl rfl
  ·
    refine r_aload_n 0 hC d_mo_heightAt_10 rfl ?_
    refine r_iload_n 1 hC d_mo_heightAt_11 rfl ?_
    refine r_iload_n 2 hC d_mo_heightAt_12 rfl ?_
    refine r_callV (o := 49) (rest := []) (stk1 := [.int (mo_ownHeight st a1 a2)]) hC d_mo_heightAt_13 (c_mo_ownHeight G st a1 a2 hI hp) mw_mo_ownHeight mi_mo_ownHeight mz_mo_ownHeight ml_mo_179 rfl rfl rfl rfl rfl (Nat.le_of_ble_eq_true rfl) rfl ?_
    exact r_iret hC hR d_mo_heightAt_16 rfl rfl
/-! TideTableModel.sum(II)I -/
def mo_sum (st : tt_St) (a1 : Int32) (a2 : Int32) : Int32 := (if (mo_isPort st a1) = 0 then (-10101) else (if (mo_isTick a2) = 0 then (-10102) else (mo_sumAt st a1 a2)))
set_option maxHeartbeats 4000000 in
set_option maxRecDepth 20000 in
theorem c_mo_sum (G : tt_G) (st : tt_St) (a1 : Int32) (a2 : Int32) (hI : mo_ok st) : tt_C y_mo_sum prog_7_method_34_code 3 (some .int) 3 71 G [.ref (tt_ad G 49), .int a1, .int a2] st (some (.int (mo_sum st a1 a2))) st := by
  refine tt_enter (α := Int32) (mk := fun r => (some (.int r), st)) (T := (mo_sum st a1 a2)) (by decide +kernel) (Nat.le_of_ble_eq_true rfl) (fun κ hC hR => ?_)
  rw [mo_sum]
  refine r_aload_n 0 hC d_mo_sum_0 rfl ?_
  refine r_iload_n 1 hC d_mo_sum_1 rfl ?_
  refine r_callV (o := 49) (rest := []) (stk1 := [.int (mo_isPort st a1)]) hC d_mo_sum_2 (c_mo_isPort G st a1) mw_mo_isPort mi_mo_isPort mz_mo_isPort ml_mo_147 rfl rfl rfl rfl rfl (Nat.le_of_ble_eq_true rfl) rfl ?_
  refine r_if_ne (tgt := 14) hC d_mo_sum_5 (by decide) (fun c_5 => ?_) (fun c_5 => ?_)
  ·
    refine r_iload_n 2 hC d_mo_sum_14 rfl ?_
    refine r_callS (rest := []) (stk1 := [.int (mo_isTick a2)]) hC d_mo_sum_15 (c_mo_isTick G st a2) mw_mo_isTick ms_mo_isTick ml_mo_182 rfl rfl rfl (Nat.le_of_ble_eq_true rfl) rfl ?_
    refine r_if_eq (tgt := 30) hC d_mo_sum_18 (by decide) (fun c_18 => ?_) (fun c_18 => ?_)
    ·
      refine r_sipush (v := (-10102)) hC d_mo_sum_30 (by decide) ?_
      exact r_iret hC hR d_mo_sum_33 rfl rfl
    ·
      refine r_aload_n 0 hC d_mo_sum_21 rfl ?_
      refine r_iload_n 1 hC d_mo_sum_22 rfl ?_
      refine r_iload_n 2 hC d_mo_sum_23 rfl ?_
      refine r_callV (o := 49) (rest := []) (stk1 := [.int (mo_sumAt st a1 a2)]) hC d_mo_sum_24 (c_mo_sumAt G st a1 a2 hI (mo_isPort_in hI c_5)) mw_mo_sumAt mi_mo_sumAt mz_mo_sumAt ml_mo_173 rfl rfl rfl rfl rfl (Nat.le_of_ble_eq_true rfl) rfl ?_
      refine r_goto (tgt := 33) hC d_mo_sum_27 (by decide) ?_
      exact r_iret hC hR d_mo_sum_33 rfl rfl
  ·
    refine r_sipush (v := (-10101)) hC d_mo_sum_8 (by decide) ?_
    refine r_goto (tgt := 33) hC d_mo_sum_11 (by decide) ?_
    exact r_iret hC hR d_mo_sum_33 rfl rfl
/-! TideTableModel.height(II)I -/
def mo_height (st : tt_St) (a1 : Int32) (a2 : Int32) : Int32 := (if (mo_isPort st a1) = 0 then (-10101) else (if (mo_isTick a2) = 0 then (-10102) else (mo_heightAt st a1 a2)))
set_option maxHeartbeats 4000000 in
set_option maxRecDepth 20000 in
theorem c_mo_height (G : tt_G) (st : tt_St) (a1 : Int32) (a2 : Int32) (hI : mo_ok st) : tt_C y_mo_height prog_7_method_35_code 3 (some .int) 6 141 G [.ref (tt_ad G 49), .int a1, .int a2] st (some (.int (mo_height st a1 a2))) st := by
  refine tt_enter (α := Int32) (mk := fun r => (some (.int r), st)) (T := (mo_height st a1 a2)) (by decide +kernel) (Nat.le_of_ble_eq_true rfl) (fun κ hC hR => ?_)
  rw [mo_height]
  refine r_aload_n 0 hC d_mo_height_0 rfl ?_
  refine r_iload_n 1 hC d_mo_height_1 rfl ?_
  refine r_callV (o := 49) (rest := []) (stk1 := [.int (mo_isPort st a1)]) hC d_mo_height_2 (c_mo_isPort G st a1) mw_mo_isPort mi_mo_isPort mz_mo_isPort ml_mo_147 rfl rfl rfl rfl rfl (Nat.le_of_ble_eq_true rfl) rfl ?_
  refine r_if_ne (tgt := 14) hC d_mo_height_5 (by decide) (fun c_5 => ?_) (fun c_5 => ?_)
  ·
    refine r_iload_n 2 hC d_mo_height_14 rfl ?_
    refine r_callS (rest := []) (stk1 := [.int (mo_isTick a2)]) hC d_mo_height_15 (c_mo_isTick G st a2) mw_mo_isTick ms_mo_isTick ml_mo_182 rfl rfl rfl (Nat.le_of_ble_eq_true rfl) rfl ?_
    refine r_if_eq (tgt := 30) hC d_mo_height_18 (by decide) (fun c_18 => ?_) (fun c_18 => ?_)
    ·
      refine r_sipush (v := (-10102)) hC d_mo_height_30 (by decide) ?_
      exact r_iret hC hR d_mo_height_33 rfl rfl
    ·
      refine r_aload_n 0 hC d_mo_height_21 rfl ?_
      refine r_iload_n 1 hC d_mo_height_22 rfl ?_
      refine r_iload_n 2 hC d_mo_height_23 rfl ?_
      refine r_callV (o := 49) (rest := []) (stk1 := [.int (mo_heightAt st a1 a2)]) hC d_mo_height_24 (c_mo_heightAt G st a1 a2 hI (mo_isPort_in hI c_5)) mw_mo_heightAt mi_mo_heightAt mz_mo_heightAt ml_mo_185 rfl rfl rfl rfl rfl (Nat.le_of_ble_eq_true rfl) rfl ?_
      refine r_goto (tgt := 33) hC d_mo_height_27 (by decide) ?_
      exact r_iret hC hR d_mo_height_33 rfl rfl
  ·
    refine r_sipush (v := (-10101)) hC d_mo_height_8 (by decide) ?_
    refine r_goto (tgt := 33) hC d_mo_height_11 (by decide) ?_
    exact r_iret hC hR d_mo_height_33 rfl rfl
/-! TideTableModel.then(II)I -/
def mo_then_l10 (st : tt_St) (a1 : Int32) (a2 : Int32) (x3 : Int32) : Nat → Nat → Int32
  | 0, j => 0
  | n + 1, j => (if (mo_heightAt st a1 (a2 + (nI j))) = x3 then (mo_then_l10 st a1 a2 x3 n (j + 1)) else ((mo_heightAt st a1 (a2 + (nI j))) - x3))
set_option maxHeartbeats 4000000 in
set_option maxRecDepth 20000 in
theorem l_mo_then_10 {G : tt_G} {κ : tt_X (Int32)} (hC : tt_Cx G κ prog_7_method_36_code "TideTableModel" 6 6 141) (st : tt_St) (a1 : Int32) (a2 : Int32) (x3 : Int32)  (hR : tt_Rt G κ (some .int) (fun r => (some (.int r), st))) (hI : mo_ok st) (hp : vp_in a1 4) : ∀ (n j : Nat), j + n = 145 → tt_V G κ (mo_then_l10 st a1 a2 x3 n j) st 10 [(0, .ref (tt_ad G 49)), (1, .int a1), (2, .int a2), (3, .int x3), (4, .int (nI j))] [] := by
  intro n
  induction n with
  | zero =>
    intro j hj
    rw [mo_then_l10]
    refine r_iload 4 hC d_mo_then_10 rfl ?_
    refine r_sipush (v := 144) hC d_mo_then_12 (by decide) ?_
    refine t_icmp_gt (tgt := 46) hC d_mo_then_15 (by decide) (nI_lt (a := 144) (by omega) (by omega)) ?_
    refine r_iconst (v := 0) hC d_mo_then_46 (by decide) ?_
    exact r_iret hC hR d_mo_then_47 rfl rfl
  | succ n ih =>
    intro j hj
    rw [mo_then_l10]
    refine r_iload 4 hC d_mo_then_10 rfl ?_
    refine r_sipush (v := 144) hC d_mo_then_12 (by decide) ?_
    refine f_icmp_gt (tgt := 46) hC d_mo_then_15 (by decide) (nI_nlt (a := 144) (b := j) (by omega) (by omega)) ?_
    refine r_aload_n 0 hC d_mo_then_18 rfl ?_
    refine r_iload_n 1 hC d_mo_then_19 rfl ?_
    refine r_iload_n 2 hC d_mo_then_20 rfl ?_
    refine r_iload 4 hC d_mo_then_21 rfl ?_
    refine r_iadd hC d_mo_then_23 ?_
    refine r_callV (o := 49) (rest := []) (stk1 := [.int (mo_heightAt st a1 (a2 + (nI j)))]) hC d_mo_then_24 (c_mo_heightAt G st a1 (a2 + (nI j)) hI hp) mw_mo_heightAt mi_mo_heightAt mz_mo_heightAt ml_mo_185 rfl rfl rfl rfl rfl (Nat.le_of_ble_eq_true rfl) rfl ?_
    refine r_istore [(5, .int (mo_heightAt st a1 (a2 + (nI j)))), (0, .ref (tt_ad G 49)), (1, .int a1), (2, .int a2), (3, .int x3), (4, .int (nI j))] hC d_mo_then_27 (by decide) rfl ?_
    refine r_iload 0 hC d_mo_then_29 rfl ?_
    refine r_iload_n 4 hC d_mo_then_31 rfl ?_
    refine r_icmp_eq (tgt := 40) hC d_mo_then_32 (by decide) (fun c_32 => ?_) (fun c_32 => ?_)
    ·
      refine r_iinc 5 (nI (j + 1)) [(4, .int (nI (j + 1))), (5, .int (mo_heightAt st a1 (a2 + (nI j)))), (0, .ref (tt_ad G 49)), (1, .int a1), (2, .int a2), (3, .int x3)] hC d_mo_then_40 rfl (by rw [nI_succ]; rfl) (by decide) rfl ?_
      refine r_goto (tgt := 10) hC d_mo_then_43 (by decide) ?_
      exact tt_cast [2, 3, 4, 5, 0] rfl rfl (ih (j + 1) (by omega))
    ·
      refine r_iload 0 hC d_mo_then_35 rfl ?_
      refine r_iload_n 4 hC d_mo_then_37 rfl ?_
      refine r_isub hC d_mo_then_38 ?_
      exact r_iret hC hR d_mo_then_39 rfl rfl
def mo_then (st : tt_St) (a1 : Int32) (a2 : Int32) : Int32 := (mo_then_l10 st a1 a2 (mo_heightAt st a1 a2) 144 1)
set_option maxHeartbeats 4000000 in
set_option maxRecDepth 20000 in
theorem c_mo_then (G : tt_G) (st : tt_St) (a1 : Int32) (a2 : Int32) (hI : mo_ok st) (hp : vp_in a1 4) : tt_C y_mo_then prog_7_method_36_code 6 (some .int) 6 141 G [.ref (tt_ad G 49), .int a1, .int a2] st (some (.int (mo_then st a1 a2))) st := by
  refine tt_enter (α := Int32) (mk := fun r => (some (.int r), st)) (T := (mo_then st a1 a2)) (by decide +kernel) (Nat.le_of_ble_eq_true rfl) (fun κ hC hR => ?_)
  rw [mo_then]
  refine r_aload_n 0 hC d_mo_then_0 rfl ?_
  refine r_iload_n 1 hC d_mo_then_1 rfl ?_
  refine r_iload_n 2 hC d_mo_then_2 rfl ?_
  refine r_callV (o := 49) (rest := []) (stk1 := [.int (mo_heightAt st a1 a2)]) hC d_mo_then_3 (c_mo_heightAt G st a1 a2 hI hp) mw_mo_heightAt mi_mo_heightAt mz_mo_heightAt ml_mo_185 rfl rfl rfl rfl rfl (Nat.le_of_ble_eq_true rfl) rfl ?_
  refine r_istore_n [(3, .int (mo_heightAt st a1 a2)), (0, .ref (tt_ad G 49)), (1, .int a1), (2, .int a2)] hC d_mo_then_6 rfl (by decide) rfl ?_
  refine r_iconst (v := 1) hC d_mo_then_7 (by decide) ?_
  refine r_istore [(4, .int 1), (3, .int (mo_heightAt st a1 a2)), (0, .ref (tt_ad G 49)), (1, .int a1), (2, .int a2)] hC d_mo_then_8 (by decide) rfl ?_
  exact tt_cast [2, 3, 4, 1, 0] rfl rfl (l_mo_then_10 hC st a1 a2 (mo_heightAt st a1 a2) hR hI hp 144 1  (by omega))
/-! TideTableModel.turnsAt(II)I -/
def mo_turnsAt (st : tt_St) (a1 : Int32) (a2 : Int32) : Int32 := (if ((mo_heightAt st a1 a2) - (mo_heightAt st a1 (a2 - 1))) = 0 then (-10001) else (if ((mo_heightAt st a1 a2) - (mo_heightAt st a1 (a2 - 1))) ≤ 0 then (if 0 ≤ ((mo_heightAt st a1 a2) - (mo_heightAt st a1 (a2 - 1))) then (-10001) else (if (mo_then st a1 a2) ≤ 0 then (-10001) else 0)) else (if 0 ≤ (mo_then st a1 a2) then (if 0 ≤ ((mo_heightAt st a1 a2) - (mo_heightAt st a1 (a2 - 1))) then (-10001) else (if (mo_then st a1 a2) ≤ 0 then (-10001) else 0)) else 1)))
set_option maxHeartbeats 4000000 in
set_option maxRecDepth 20000 in
theorem c_mo_turnsAt (G : tt_G) (st : tt_St) (a1 : Int32) (a2 : Int32) (hI : mo_ok st) (hp : vp_in a1 4) : tt_C y_mo_turnsAt prog_7_method_37_code 5 (some .int) 7 166 G [.ref (tt_ad G 49), .int a1, .int a2] st (some (.int (mo_turnsAt st a1 a2))) st := by
  refine tt_enter (α := Int32) (mk := fun r => (some (.int r), st)) (T := (mo_turnsAt st a1 a2)) (by decide +kernel) (Nat.le_of_ble_eq_true rfl) (fun κ hC hR => ?_)
  rw [mo_turnsAt]
  refine r_aload_n 0 hC d_mo_turnsAt_0 rfl ?_
  refine r_iload_n 1 hC d_mo_turnsAt_1 rfl ?_
  refine r_iload_n 2 hC d_mo_turnsAt_2 rfl ?_
  refine r_callV (o := 49) (rest := []) (stk1 := [.int (mo_heightAt st a1 a2)]) hC d_mo_turnsAt_3 (c_mo_heightAt G st a1 a2 hI hp) mw_mo_heightAt mi_mo_heightAt mz_mo_heightAt ml_mo_185 rfl rfl rfl rfl rfl (Nat.le_of_ble_eq_true rfl) rfl ?_
  refine r_aload_n 0 hC d_mo_turnsAt_6 rfl ?_
  refine r_iload_n 1 hC d_mo_turnsAt_7 rfl ?_
  refine r_iload_n 2 hC d_mo_turnsAt_8 rfl ?_
  refine r_iconst (v := 1) hC d_mo_turnsAt_9 (by decide) ?_
  refine r_isub hC d_mo_turnsAt_10 ?_
  refine r_callV (o := 49) (rest := [.int (mo_heightAt st a1 a2)]) (stk1 := [.int (mo_heightAt st a1 (a2 - 1)), .int (mo_heightAt st a1 a2)]) hC d_mo_turnsAt_11 (c_mo_heightAt G st a1 (a2 - 1) hI hp) mw_mo_heightAt mi_mo_heightAt mz_mo_heightAt ml_mo_185 rfl rfl rfl rfl rfl (Nat.le_of_ble_eq_true rfl) rfl ?_
  refine r_isub hC d_mo_turnsAt_14 ?_
  refine r_istore_n [(3, .int ((mo_heightAt st a1 a2) - (mo_heightAt st a1 (a2 - 1)))), (0, .ref (tt_ad G 49)), (1, .int a1), (2, .int a2)] hC d_mo_turnsAt_15 rfl (by decide) rfl ?_
  refine r_iload_n 0 hC d_mo_turnsAt_16 rfl ?_
  refine r_if_ne (tgt := 24) hC d_mo_turnsAt_17 (by decide) (fun c_17 => ?_) (fun c_17 => ?_)
  ·
    refine r_aload_n 1 hC d_mo_turnsAt_24 rfl ?_
    refine r_iload_n 2 hC d_mo_turnsAt_25 rfl ?_
    refine r_iload_n 3 hC d_mo_turnsAt_26 rfl ?_
    refine r_callV (o := 49) (rest := []) (stk1 := [.int (mo_then st a1 a2)]) hC d_mo_turnsAt_27 (c_mo_then G st a1 a2 hI hp) mw_mo_then mi_mo_then mz_mo_then ml_mo_188 rfl rfl rfl rfl rfl (Nat.le_of_ble_eq_true rfl) rfl ?_
    refine r_istore [(4, .int (mo_then st a1 a2)), (3, .int ((mo_heightAt st a1 a2) - (mo_heightAt st a1 (a2 - 1)))), (0, .ref (tt_ad G 49)), (1, .int a1), (2, .int a2)] hC d_mo_turnsAt_30 (by decide) rfl ?_
    refine r_iload_n 1 hC d_mo_turnsAt_32 rfl ?_
    refine r_if_le (tgt := 45) hC d_mo_turnsAt_33 (by decide) (fun c_33 => ?_) (fun c_33 => ?_)
    ·
      refine r_iload_n 1 hC d_mo_turnsAt_45 rfl ?_
      refine r_if_ge (tgt := 58) hC d_mo_turnsAt_46 (by decide) (fun c_46 => ?_) (fun c_46 => ?_)
      ·
        refine r_sipush (v := (-10001)) hC d_mo_turnsAt_58 (by decide) ?_
        exact r_iret hC hR d_mo_turnsAt_61 rfl rfl
      ·
        refine r_iload 0 hC d_mo_turnsAt_49 rfl ?_
        refine r_if_le (tgt := 58) hC d_mo_turnsAt_51 (by decide) (fun c_51 => ?_) (fun c_51 => ?_)
        ·
          refine r_sipush (v := (-10001)) hC d_mo_turnsAt_58 (by decide) ?_
          exact r_iret hC hR d_mo_turnsAt_61 rfl rfl
        ·
          refine r_iconst (v := 0) hC d_mo_turnsAt_54 (by decide) ?_
          refine r_goto (tgt := 61) hC d_mo_turnsAt_55 (by decide) ?_
          exact r_iret hC hR d_mo_turnsAt_61 rfl rfl
    ·
      refine r_iload 0 hC d_mo_turnsAt_36 rfl ?_
      refine r_if_ge (tgt := 45) hC d_mo_turnsAt_38 (by decide) (fun c_38 => ?_) (fun c_38 => ?_)
      ·
        refine r_iload_n 1 hC d_mo_turnsAt_45 rfl ?_
        refine r_if_ge (tgt := 58) hC d_mo_turnsAt_46 (by decide) (fun c_46 => ?_) (fun c_46 => ?_)
        ·
          refine r_sipush (v := (-10001)) hC d_mo_turnsAt_58 (by decide) ?_
          exact r_iret hC hR d_mo_turnsAt_61 rfl rfl
        ·
          refine r_iload 0 hC d_mo_turnsAt_49 rfl ?_
          refine r_if_le (tgt := 58) hC d_mo_turnsAt_51 (by decide) (fun c_51 => ?_) (fun c_51 => ?_)
          ·
            refine r_sipush (v := (-10001)) hC d_mo_turnsAt_58 (by decide) ?_
            exact r_iret hC hR d_mo_turnsAt_61 rfl rfl
          ·
            refine r_iconst (v := 0) hC d_mo_turnsAt_54 (by decide) ?_
            refine r_goto (tgt := 61) hC d_mo_turnsAt_55 (by decide) ?_
            exact r_iret hC hR d_mo_turnsAt_61 rfl rfl
      ·
        refine r_iconst (v := 1) hC d_mo_turnsAt_41 (by decide) ?_
        refine r_goto (tgt := 61) hC d_mo_turnsAt_42 (by decide) ?_
        exact r_iret hC hR d_mo_turnsAt_61 rfl rfl
  ·
    refine r_sipush (v := (-10001)) hC d_mo_turnsAt_20 (by decide) ?_
    exact r_iret hC hR d_mo_turnsAt_23 rfl rfl
end
