-- ===== PART A: goes FIRST, ahead of the names: the tables' words, and 'selects' of the private methods out of them =====
/-- a private method of a class that the tables say can be made, by its rows of tables_1 -/
def lw_okq (q : MethodName × Nat) : Prop := (q.1.cls ≠ "java/lang/invoke/MethodHandle" ∧ q.1.cls ≠ "java/lang/invoke/VarHandle") ∧ Cond.instantiable q.1.cls q.2 ∈ tables_1 ∧ Cond.privateMethod q.1 ∈ tables_1 ∧ Cond.instanceMethod q.1 ∈ tables_1
theorem lw_p0 : lw_okq (⟨"CoilBench$Netlist", "headOf", "(I)I"⟩, 13) := ⟨⟨by decide +kernel, by decide +kernel⟩, List.mem_of_getElem? (i := 67) (by decide +kernel), List.mem_of_getElem? (i := 83) (by decide +kernel), List.mem_of_getElem? (i := 84) (by decide +kernel)⟩
theorem lw_p1 : lw_okq (⟨"CoilBench$Netlist", "numberUntold", "(II)V"⟩, 13) := ⟨⟨by decide +kernel, by decide +kernel⟩, List.mem_of_getElem? (i := 67) (by decide +kernel), List.mem_of_getElem? (i := 87) (by decide +kernel), List.mem_of_getElem? (i := 88) (by decide +kernel)⟩
theorem lw_p2 : lw_okq (⟨"CoilBench$Netlist", "endsOf", "(II)I"⟩, 13) := ⟨⟨by decide +kernel, by decide +kernel⟩, List.mem_of_getElem? (i := 67) (by decide +kernel), List.mem_of_getElem? (i := 99) (by decide +kernel), List.mem_of_getElem? (i := 100) (by decide +kernel)⟩
theorem lw_p3 : lw_okq (⟨"CoilBench", "feedNumber", "(I)V"⟩, 9) := ⟨⟨by decide +kernel, by decide +kernel⟩, List.mem_of_getElem? (i := 21) (by decide +kernel), List.mem_of_getElem? (i := 384) (by decide +kernel), List.mem_of_getElem? (i := 385) (by decide +kernel)⟩
theorem lw_p4 : lw_okq (⟨"CoilBench$Tokens", "goesOn", "(I)Z"⟩, 6) := ⟨⟨by decide +kernel, by decide +kernel⟩, List.mem_of_getElem? (i := 35) (by decide +kernel), List.mem_of_getElem? (i := 414) (by decide +kernel), List.mem_of_getElem? (i := 415) (by decide +kernel)⟩
theorem lw_p5 : lw_okq (⟨"CoilBench$Tokens", "extend", "(II)V"⟩, 6) := ⟨⟨by decide +kernel, by decide +kernel⟩, List.mem_of_getElem? (i := 35) (by decide +kernel), List.mem_of_getElem? (i := 424) (by decide +kernel), List.mem_of_getElem? (i := 425) (by decide +kernel)⟩
theorem lw_p6 : lw_okq (⟨"CoilBench$Tokens", "begin", "(II)V"⟩, 6) := ⟨⟨by decide +kernel, by decide +kernel⟩, List.mem_of_getElem? (i := 35) (by decide +kernel), List.mem_of_getElem? (i := 433) (by decide +kernel), List.mem_of_getElem? (i := 434) (by decide +kernel)⟩
theorem lw_p7 : lw_okq (⟨"CoilBench$Tokens", "put", "(IIJ)V"⟩, 6) := ⟨⟨by decide +kernel, by decide +kernel⟩, List.mem_of_getElem? (i := 35) (by decide +kernel), List.mem_of_getElem? (i := 437) (by decide +kernel), List.mem_of_getElem? (i := 438) (by decide +kernel)⟩
theorem lw_p8 : lw_okq (⟨"CoilBench$Reader", "kind", "()I"⟩, 14) := ⟨⟨by decide +kernel, by decide +kernel⟩, List.mem_of_getElem? (i := 29) (by decide +kernel), List.mem_of_getElem? (i := 505) (by decide +kernel), List.mem_of_getElem? (i := 506) (by decide +kernel)⟩
theorem lw_p9 : lw_okq (⟨"CoilBench$Reader", "readStatement", "()Z"⟩, 14) := ⟨⟨by decide +kernel, by decide +kernel⟩, List.mem_of_getElem? (i := 29) (by decide +kernel), List.mem_of_getElem? (i := 509) (by decide +kernel), List.mem_of_getElem? (i := 510) (by decide +kernel)⟩
theorem lw_p10 : lw_okq (⟨"CoilBench$Reader", "pass", "(I)Z"⟩, 14) := ⟨⟨by decide +kernel, by decide +kernel⟩, List.mem_of_getElem? (i := 29) (by decide +kernel), List.mem_of_getElem? (i := 513) (by decide +kernel), List.mem_of_getElem? (i := 514) (by decide +kernel)⟩
theorem lw_p11 : lw_okq (⟨"CoilBench$Reader", "readWire", "()Z"⟩, 14) := ⟨⟨by decide +kernel, by decide +kernel⟩, List.mem_of_getElem? (i := 29) (by decide +kernel), List.mem_of_getElem? (i := 517) (by decide +kernel), List.mem_of_getElem? (i := 518) (by decide +kernel)⟩
theorem lw_p12 : lw_okq (⟨"CoilBench$Reader", "readPin", "()Z"⟩, 14) := ⟨⟨by decide +kernel, by decide +kernel⟩, List.mem_of_getElem? (i := 29) (by decide +kernel), List.mem_of_getElem? (i := 521) (by decide +kernel), List.mem_of_getElem? (i := 522) (by decide +kernel)⟩
theorem lw_p13 : lw_okq (⟨"CoilBench$Reader", "addPin", "(II)Z"⟩, 14) := ⟨⟨by decide +kernel, by decide +kernel⟩, List.mem_of_getElem? (i := 29) (by decide +kernel), List.mem_of_getElem? (i := 525) (by decide +kernel), List.mem_of_getElem? (i := 526) (by decide +kernel)⟩
theorem lw_p14 : lw_okq (⟨"CoilBench$Reader", "passName", "()Z"⟩, 14) := ⟨⟨by decide +kernel, by decide +kernel⟩, List.mem_of_getElem? (i := 29) (by decide +kernel), List.mem_of_getElem? (i := 529) (by decide +kernel), List.mem_of_getElem? (i := 530) (by decide +kernel)⟩
theorem lw_p15 : lw_okq (⟨"CoilBench$Reader", "readEnd", "(I)Z"⟩, 14) := ⟨⟨by decide +kernel, by decide +kernel⟩, List.mem_of_getElem? (i := 29) (by decide +kernel), List.mem_of_getElem? (i := 533) (by decide +kernel), List.mem_of_getElem? (i := 534) (by decide +kernel)⟩
def lw_privs_1 : List (MethodName × Nat) := [(⟨"CoilBench$Netlist", "headOf", "(I)I"⟩, 13), (⟨"CoilBench$Netlist", "numberUntold", "(II)V"⟩, 13), (⟨"CoilBench$Netlist", "endsOf", "(II)I"⟩, 13), (⟨"CoilBench", "feedNumber", "(I)V"⟩, 9), (⟨"CoilBench$Tokens", "goesOn", "(I)Z"⟩, 6), (⟨"CoilBench$Tokens", "extend", "(II)V"⟩, 6), (⟨"CoilBench$Tokens", "begin", "(II)V"⟩, 6), (⟨"CoilBench$Tokens", "put", "(IIJ)V"⟩, 6), (⟨"CoilBench$Reader", "kind", "()I"⟩, 14), (⟨"CoilBench$Reader", "readStatement", "()Z"⟩, 14), (⟨"CoilBench$Reader", "pass", "(I)Z"⟩, 14), (⟨"CoilBench$Reader", "readWire", "()Z"⟩, 14), (⟨"CoilBench$Reader", "readPin", "()Z"⟩, 14), (⟨"CoilBench$Reader", "addPin", "(II)Z"⟩, 14), (⟨"CoilBench$Reader", "passName", "()Z"⟩, 14), (⟨"CoilBench$Reader", "readEnd", "(I)Z"⟩, 14)]
theorem lw_r1 : ∀ q ∈ lw_privs_1, lw_okq q := List.forall_mem_cons.mpr ⟨lw_p0, List.forall_mem_cons.mpr ⟨lw_p1, List.forall_mem_cons.mpr ⟨lw_p2, List.forall_mem_cons.mpr ⟨lw_p3, List.forall_mem_cons.mpr ⟨lw_p4, List.forall_mem_cons.mpr ⟨lw_p5, List.forall_mem_cons.mpr ⟨lw_p6, List.forall_mem_cons.mpr ⟨lw_p7, List.forall_mem_cons.mpr ⟨lw_p8, List.forall_mem_cons.mpr ⟨lw_p9, List.forall_mem_cons.mpr ⟨lw_p10, List.forall_mem_cons.mpr ⟨lw_p11, List.forall_mem_cons.mpr ⟨lw_p12, List.forall_mem_cons.mpr ⟨lw_p13, List.forall_mem_cons.mpr ⟨lw_p14, List.forall_mem_cons.mpr ⟨lw_p15, fun _ h => absurd h List.not_mem_nil⟩⟩⟩⟩⟩⟩⟩⟩⟩⟩⟩⟩⟩⟩⟩⟩
theorem lw_p16 : lw_okq (⟨"CoilBench$Reader", "passNumber", "(II)Z"⟩, 14) := ⟨⟨by decide +kernel, by decide +kernel⟩, List.mem_of_getElem? (i := 29) (by decide +kernel), List.mem_of_getElem? (i := 539) (by decide +kernel), List.mem_of_getElem? (i := 540) (by decide +kernel)⟩
theorem lw_p17 : lw_okq (⟨"CoilBench$Reader", "readRelay", "()Z"⟩, 14) := ⟨⟨by decide +kernel, by decide +kernel⟩, List.mem_of_getElem? (i := 29) (by decide +kernel), List.mem_of_getElem? (i := 543) (by decide +kernel), List.mem_of_getElem? (i := 544) (by decide +kernel)⟩
theorem lw_p18 : lw_okq (⟨"CoilBench$Reader", "declare", "(I)I"⟩, 14) := ⟨⟨by decide +kernel, by decide +kernel⟩, List.mem_of_getElem? (i := 29) (by decide +kernel), List.mem_of_getElem? (i := 547) (by decide +kernel), List.mem_of_getElem? (i := 548) (by decide +kernel)⟩
theorem lw_p19 : lw_okq (⟨"CoilBench$Reader", "readPlain", "(I)Z"⟩, 14) := ⟨⟨by decide +kernel, by decide +kernel⟩, List.mem_of_getElem? (i := 29) (by decide +kernel), List.mem_of_getElem? (i := 565) (by decide +kernel), List.mem_of_getElem? (i := 566) (by decide +kernel)⟩
theorem lw_p20 : lw_okq (⟨"CoilBench$Reader", "readClock", "()Z"⟩, 14) := ⟨⟨by decide +kernel, by decide +kernel⟩, List.mem_of_getElem? (i := 29) (by decide +kernel), List.mem_of_getElem? (i := 569) (by decide +kernel), List.mem_of_getElem? (i := 570) (by decide +kernel)⟩
theorem lw_p21 : lw_okq (⟨"CoilBench$Reader", "blame", "(II)Z"⟩, 14) := ⟨⟨by decide +kernel, by decide +kernel⟩, List.mem_of_getElem? (i := 29) (by decide +kernel), List.mem_of_getElem? (i := 577) (by decide +kernel), List.mem_of_getElem? (i := 578) (by decide +kernel)⟩
theorem lw_p22 : lw_okq (⟨"CoilBench$Reader", "findEnds", "()I"⟩, 14) := ⟨⟨by decide +kernel, by decide +kernel⟩, List.mem_of_getElem? (i := 29) (by decide +kernel), List.mem_of_getElem? (i := 581) (by decide +kernel), List.mem_of_getElem? (i := 582) (by decide +kernel)⟩
theorem lw_p23 : lw_okq (⟨"CoilBench$Reader", "findEnd", "(II)I"⟩, 14) := ⟨⟨by decide +kernel, by decide +kernel⟩, List.mem_of_getElem? (i := 29) (by decide +kernel), List.mem_of_getElem? (i := 585) (by decide +kernel), List.mem_of_getElem? (i := 586) (by decide +kernel)⟩
theorem lw_p24 : lw_okq (⟨"CoilBench$Reader", "joinWires", "()V"⟩, 14) := ⟨⟨by decide +kernel, by decide +kernel⟩, List.mem_of_getElem? (i := 29) (by decide +kernel), List.mem_of_getElem? (i := 591) (by decide +kernel), List.mem_of_getElem? (i := 592) (by decide +kernel)⟩
theorem lw_p25 : lw_okq (⟨"CoilBench", "takeNetlist", "()I"⟩, 9) := ⟨⟨by decide +kernel, by decide +kernel⟩, List.mem_of_getElem? (i := 21) (by decide +kernel), List.mem_of_getElem? (i := 600) (by decide +kernel), List.mem_of_getElem? (i := 601) (by decide +kernel)⟩
theorem lw_p26 : lw_okq (⟨"CoilBench$Machine", "joinContact", "(III)V"⟩, 3) := ⟨⟨by decide +kernel, by decide +kernel⟩, List.mem_of_getElem? (i := 206) (by decide +kernel), List.mem_of_getElem? (i := 667) (by decide +kernel), List.mem_of_getElem? (i := 668) (by decide +kernel)⟩
theorem lw_p27 : lw_okq (⟨"CoilBench$Machine", "joinEnds", "(II)V"⟩, 3) := ⟨⟨by decide +kernel, by decide +kernel⟩, List.mem_of_getElem? (i := 206) (by decide +kernel), List.mem_of_getElem? (i := 687) (by decide +kernel), List.mem_of_getElem? (i := 688) (by decide +kernel)⟩
theorem lw_p28 : lw_okq (⟨"CoilBench", "runTick", "()LCoilBench$State;"⟩, 9) := ⟨⟨by decide +kernel, by decide +kernel⟩, List.mem_of_getElem? (i := 21) (by decide +kernel), List.mem_of_getElem? (i := 723) (by decide +kernel), List.mem_of_getElem? (i := 724) (by decide +kernel)⟩
theorem lw_p29 : lw_okq (⟨"CoilBench$Machine", "runCoil", "(LCoilBench$State;IZ)V"⟩, 3) := ⟨⟨by decide +kernel, by decide +kernel⟩, List.mem_of_getElem? (i := 206) (by decide +kernel), List.mem_of_getElem? (i := 750) (by decide +kernel), List.mem_of_getElem? (i := 751) (by decide +kernel)⟩
theorem lw_p30 : lw_okq (⟨"CoilBench$Races", "pickedBehind", "(LCoilBench$Machine;II)J"⟩, 5) := ⟨⟨by decide +kernel, by decide +kernel⟩, List.mem_of_getElem? (i := 328) (by decide +kernel), List.mem_of_getElem? (i := 837) (by decide +kernel), List.mem_of_getElem? (i := 838) (by decide +kernel)⟩
theorem lw_p31 : lw_okq (⟨"CoilBenchModel", "four", "(I)V"⟩, 46) := ⟨⟨by decide +kernel, by decide +kernel⟩, List.mem_of_getElem? (i := 865) (by decide +kernel), List.mem_of_getElem? (i := 1015) (by decide +kernel), List.mem_of_getElem? (i := 1016) (by decide +kernel)⟩
def lw_privs_2 : List (MethodName × Nat) := [(⟨"CoilBench$Reader", "passNumber", "(II)Z"⟩, 14), (⟨"CoilBench$Reader", "readRelay", "()Z"⟩, 14), (⟨"CoilBench$Reader", "declare", "(I)I"⟩, 14), (⟨"CoilBench$Reader", "readPlain", "(I)Z"⟩, 14), (⟨"CoilBench$Reader", "readClock", "()Z"⟩, 14), (⟨"CoilBench$Reader", "blame", "(II)Z"⟩, 14), (⟨"CoilBench$Reader", "findEnds", "()I"⟩, 14), (⟨"CoilBench$Reader", "findEnd", "(II)I"⟩, 14), (⟨"CoilBench$Reader", "joinWires", "()V"⟩, 14), (⟨"CoilBench", "takeNetlist", "()I"⟩, 9), (⟨"CoilBench$Machine", "joinContact", "(III)V"⟩, 3), (⟨"CoilBench$Machine", "joinEnds", "(II)V"⟩, 3), (⟨"CoilBench", "runTick", "()LCoilBench$State;"⟩, 9), (⟨"CoilBench$Machine", "runCoil", "(LCoilBench$State;IZ)V"⟩, 3), (⟨"CoilBench$Races", "pickedBehind", "(LCoilBench$Machine;II)J"⟩, 5), (⟨"CoilBenchModel", "four", "(I)V"⟩, 46)]
theorem lw_r2 : ∀ q ∈ lw_privs_2, lw_okq q := List.forall_mem_cons.mpr ⟨lw_p16, List.forall_mem_cons.mpr ⟨lw_p17, List.forall_mem_cons.mpr ⟨lw_p18, List.forall_mem_cons.mpr ⟨lw_p19, List.forall_mem_cons.mpr ⟨lw_p20, List.forall_mem_cons.mpr ⟨lw_p21, List.forall_mem_cons.mpr ⟨lw_p22, List.forall_mem_cons.mpr ⟨lw_p23, List.forall_mem_cons.mpr ⟨lw_p24, List.forall_mem_cons.mpr ⟨lw_p25, List.forall_mem_cons.mpr ⟨lw_p26, List.forall_mem_cons.mpr ⟨lw_p27, List.forall_mem_cons.mpr ⟨lw_p28, List.forall_mem_cons.mpr ⟨lw_p29, List.forall_mem_cons.mpr ⟨lw_p30, List.forall_mem_cons.mpr ⟨lw_p31, fun _ h => absurd h List.not_mem_nil⟩⟩⟩⟩⟩⟩⟩⟩⟩⟩⟩⟩⟩⟩⟩⟩
theorem lw_p32 : lw_okq (⟨"CoilBenchModel", "reads", "()I"⟩, 46) := ⟨⟨by decide +kernel, by decide +kernel⟩, List.mem_of_getElem? (i := 865) (by decide +kernel), List.mem_of_getElem? (i := 1023) (by decide +kernel), List.mem_of_getElem? (i := 1024) (by decide +kernel)⟩
theorem lw_p33 : lw_okq (⟨"CoilBenchModel", "lex", "()V"⟩, 46) := ⟨⟨by decide +kernel, by decide +kernel⟩, List.mem_of_getElem? (i := 865) (by decide +kernel), List.mem_of_getElem? (i := 1027) (by decide +kernel), List.mem_of_getElem? (i := 1028) (by decide +kernel)⟩
theorem lw_p34 : lw_okq (⟨"CoilBenchModel", "byteAt", "(I)I"⟩, 46) := ⟨⟨by decide +kernel, by decide +kernel⟩, List.mem_of_getElem? (i := 865) (by decide +kernel), List.mem_of_getElem? (i := 1031) (by decide +kernel), List.mem_of_getElem? (i := 1032) (by decide +kernel)⟩
theorem lw_p35 : lw_okq (⟨"CoilBenchModel", "token", "(IIIJ)V"⟩, 46) := ⟨⟨by decide +kernel, by decide +kernel⟩, List.mem_of_getElem? (i := 865) (by decide +kernel), List.mem_of_getElem? (i := 1035) (by decide +kernel), List.mem_of_getElem? (i := 1036) (by decide +kernel)⟩
theorem lw_p36 : lw_okq (⟨"CoilBenchModel", "parts", "()V"⟩, 46) := ⟨⟨by decide +kernel, by decide +kernel⟩, List.mem_of_getElem? (i := 865) (by decide +kernel), List.mem_of_getElem? (i := 1047) (by decide +kernel), List.mem_of_getElem? (i := 1048) (by decide +kernel)⟩
theorem lw_p37 : lw_okq (⟨"CoilBenchModel", "good", "()Z"⟩, 46) := ⟨⟨by decide +kernel, by decide +kernel⟩, List.mem_of_getElem? (i := 865) (by decide +kernel), List.mem_of_getElem? (i := 1051) (by decide +kernel), List.mem_of_getElem? (i := 1052) (by decide +kernel)⟩
theorem lw_p38 : lw_okq (⟨"CoilBenchModel", "sortHere", "()I"⟩, 46) := ⟨⟨by decide +kernel, by decide +kernel⟩, List.mem_of_getElem? (i := 865) (by decide +kernel), List.mem_of_getElem? (i := 1055) (by decide +kernel), List.mem_of_getElem? (i := 1056) (by decide +kernel)⟩
theorem lw_p39 : lw_okq (⟨"CoilBenchModel", "isWord", "(J)Z"⟩, 46) := ⟨⟨by decide +kernel, by decide +kernel⟩, List.mem_of_getElem? (i := 865) (by decide +kernel), List.mem_of_getElem? (i := 1060) (by decide +kernel), List.mem_of_getElem? (i := 1061) (by decide +kernel)⟩
theorem lw_p40 : lw_okq (⟨"CoilBenchModel", "part", "(I)V"⟩, 46) := ⟨⟨by decide +kernel, by decide +kernel⟩, List.mem_of_getElem? (i := 865) (by decide +kernel), List.mem_of_getElem? (i := 1068) (by decide +kernel), List.mem_of_getElem? (i := 1069) (by decide +kernel)⟩
theorem lw_p41 : lw_okq (⟨"CoilBenchModel", "isName", "()Z"⟩, 46) := ⟨⟨by decide +kernel, by decide +kernel⟩, List.mem_of_getElem? (i := 865) (by decide +kernel), List.mem_of_getElem? (i := 1072) (by decide +kernel), List.mem_of_getElem? (i := 1073) (by decide +kernel)⟩
theorem lw_p42 : lw_okq (⟨"CoilBenchModel", "fail", "()V"⟩, 46) := ⟨⟨by decide +kernel, by decide +kernel⟩, List.mem_of_getElem? (i := 865) (by decide +kernel), List.mem_of_getElem? (i := 1084) (by decide +kernel), List.mem_of_getElem? (i := 1085) (by decide +kernel)⟩
theorem lw_p43 : lw_okq (⟨"CoilBenchModel", "number", "(II)I"⟩, 46) := ⟨⟨by decide +kernel, by decide +kernel⟩, List.mem_of_getElem? (i := 865) (by decide +kernel), List.mem_of_getElem? (i := 1094) (by decide +kernel), List.mem_of_getElem? (i := 1095) (by decide +kernel)⟩
theorem lw_p44 : lw_okq (⟨"CoilBenchModel", "wire", "()V"⟩, 46) := ⟨⟨by decide +kernel, by decide +kernel⟩, List.mem_of_getElem? (i := 865) (by decide +kernel), List.mem_of_getElem? (i := 1098) (by decide +kernel), List.mem_of_getElem? (i := 1099) (by decide +kernel)⟩
theorem lw_p45 : lw_okq (⟨"CoilBenchModel", "isSign", "(I)Z"⟩, 46) := ⟨⟨by decide +kernel, by decide +kernel⟩, List.mem_of_getElem? (i := 865) (by decide +kernel), List.mem_of_getElem? (i := 1102) (by decide +kernel), List.mem_of_getElem? (i := 1103) (by decide +kernel)⟩
theorem lw_p46 : lw_okq (⟨"CoilBenchModel", "pin", "()V"⟩, 46) := ⟨⟨by decide +kernel, by decide +kernel⟩, List.mem_of_getElem? (i := 865) (by decide +kernel), List.mem_of_getElem? (i := 1106) (by decide +kernel), List.mem_of_getElem? (i := 1107) (by decide +kernel)⟩
theorem lw_p47 : lw_okq (⟨"CoilBenchModel", "need", "(I)V"⟩, 46) := ⟨⟨by decide +kernel, by decide +kernel⟩, List.mem_of_getElem? (i := 865) (by decide +kernel), List.mem_of_getElem? (i := 1110) (by decide +kernel), List.mem_of_getElem? (i := 1111) (by decide +kernel)⟩
def lw_privs_3 : List (MethodName × Nat) := [(⟨"CoilBenchModel", "reads", "()I"⟩, 46), (⟨"CoilBenchModel", "lex", "()V"⟩, 46), (⟨"CoilBenchModel", "byteAt", "(I)I"⟩, 46), (⟨"CoilBenchModel", "token", "(IIIJ)V"⟩, 46), (⟨"CoilBenchModel", "parts", "()V"⟩, 46), (⟨"CoilBenchModel", "good", "()Z"⟩, 46), (⟨"CoilBenchModel", "sortHere", "()I"⟩, 46), (⟨"CoilBenchModel", "isWord", "(J)Z"⟩, 46), (⟨"CoilBenchModel", "part", "(I)V"⟩, 46), (⟨"CoilBenchModel", "isName", "()Z"⟩, 46), (⟨"CoilBenchModel", "fail", "()V"⟩, 46), (⟨"CoilBenchModel", "number", "(II)I"⟩, 46), (⟨"CoilBenchModel", "wire", "()V"⟩, 46), (⟨"CoilBenchModel", "isSign", "(I)Z"⟩, 46), (⟨"CoilBenchModel", "pin", "()V"⟩, 46), (⟨"CoilBenchModel", "need", "(I)V"⟩, 46)]
theorem lw_r3 : ∀ q ∈ lw_privs_3, lw_okq q := List.forall_mem_cons.mpr ⟨lw_p32, List.forall_mem_cons.mpr ⟨lw_p33, List.forall_mem_cons.mpr ⟨lw_p34, List.forall_mem_cons.mpr ⟨lw_p35, List.forall_mem_cons.mpr ⟨lw_p36, List.forall_mem_cons.mpr ⟨lw_p37, List.forall_mem_cons.mpr ⟨lw_p38, List.forall_mem_cons.mpr ⟨lw_p39, List.forall_mem_cons.mpr ⟨lw_p40, List.forall_mem_cons.mpr ⟨lw_p41, List.forall_mem_cons.mpr ⟨lw_p42, List.forall_mem_cons.mpr ⟨lw_p43, List.forall_mem_cons.mpr ⟨lw_p44, List.forall_mem_cons.mpr ⟨lw_p45, List.forall_mem_cons.mpr ⟨lw_p46, List.forall_mem_cons.mpr ⟨lw_p47, fun _ h => absurd h List.not_mem_nil⟩⟩⟩⟩⟩⟩⟩⟩⟩⟩⟩⟩⟩⟩⟩⟩
theorem lw_p48 : lw_okq (⟨"CoilBenchModel", "namesAndWires", "()V"⟩, 46) := ⟨⟨by decide +kernel, by decide +kernel⟩, List.mem_of_getElem? (i := 865) (by decide +kernel), List.mem_of_getElem? (i := 1116) (by decide +kernel), List.mem_of_getElem? (i := 1117) (by decide +kernel)⟩
theorem lw_p49 : lw_okq (⟨"CoilBenchModel", "toldPart", "(I)V"⟩, 46) := ⟨⟨by decide +kernel, by decide +kernel⟩, List.mem_of_getElem? (i := 865) (by decide +kernel), List.mem_of_getElem? (i := 1120) (by decide +kernel), List.mem_of_getElem? (i := 1121) (by decide +kernel)⟩
theorem lw_p50 : lw_okq (⟨"CoilBenchModel", "isAlike", "(II)Z"⟩, 46) := ⟨⟨by decide +kernel, by decide +kernel⟩, List.mem_of_getElem? (i := 865) (by decide +kernel), List.mem_of_getElem? (i := 1124) (by decide +kernel), List.mem_of_getElem? (i := 1125) (by decide +kernel)⟩
theorem lw_p51 : lw_okq (⟨"CoilBenchModel", "names", "(I)V"⟩, 46) := ⟨⟨by decide +kernel, by decide +kernel⟩, List.mem_of_getElem? (i := 865) (by decide +kernel), List.mem_of_getElem? (i := 1128) (by decide +kernel), List.mem_of_getElem? (i := 1129) (by decide +kernel)⟩
theorem lw_p52 : lw_okq (⟨"CoilBenchModel", "toldWire", "()V"⟩, 46) := ⟨⟨by decide +kernel, by decide +kernel⟩, List.mem_of_getElem? (i := 865) (by decide +kernel), List.mem_of_getElem? (i := 1132) (by decide +kernel), List.mem_of_getElem? (i := 1133) (by decide +kernel)⟩
theorem lw_p53 : lw_okq (⟨"CoilBenchModel", "end", "()I"⟩, 46) := ⟨⟨by decide +kernel, by decide +kernel⟩, List.mem_of_getElem? (i := 865) (by decide +kernel), List.mem_of_getElem? (i := 1136) (by decide +kernel), List.mem_of_getElem? (i := 1137) (by decide +kernel)⟩
theorem lw_p54 : lw_okq (⟨"CoilBenchModel", "named", "(I)I"⟩, 46) := ⟨⟨by decide +kernel, by decide +kernel⟩, List.mem_of_getElem? (i := 865) (by decide +kernel), List.mem_of_getElem? (i := 1140) (by decide +kernel), List.mem_of_getElem? (i := 1141) (by decide +kernel)⟩
theorem lw_p55 : lw_okq (⟨"CoilBenchModel", "join", "(III)V"⟩, 46) := ⟨⟨by decide +kernel, by decide +kernel⟩, List.mem_of_getElem? (i := 865) (by decide +kernel), List.mem_of_getElem? (i := 1150) (by decide +kernel), List.mem_of_getElem? (i := 1151) (by decide +kernel)⟩
theorem lw_p56 : lw_okq (⟨"CoilBenchModel", "rootOf", "(II)I"⟩, 46) := ⟨⟨by decide +kernel, by decide +kernel⟩, List.mem_of_getElem? (i := 865) (by decide +kernel), List.mem_of_getElem? (i := 1154) (by decide +kernel), List.mem_of_getElem? (i := 1155) (by decide +kernel)⟩
theorem lw_p57 : lw_okq (⟨"CoilBenchModel", "bit", "(I)V"⟩, 46) := ⟨⟨by decide +kernel, by decide +kernel⟩, List.mem_of_getElem? (i := 865) (by decide +kernel), List.mem_of_getElem? (i := 1164) (by decide +kernel), List.mem_of_getElem? (i := 1165) (by decide +kernel)⟩
theorem lw_p58 : lw_okq (⟨"CoilBenchModel", "word", "(J)V"⟩, 46) := ⟨⟨by decide +kernel, by decide +kernel⟩, List.mem_of_getElem? (i := 865) (by decide +kernel), List.mem_of_getElem? (i := 1169) (by decide +kernel), List.mem_of_getElem? (i := 1170) (by decide +kernel)⟩
theorem lw_p59 : lw_okq (⟨"CoilBenchModel", "put", "(I)V"⟩, 46) := ⟨⟨by decide +kernel, by decide +kernel⟩, List.mem_of_getElem? (i := 865) (by decide +kernel), List.mem_of_getElem? (i := 1174) (by decide +kernel), List.mem_of_getElem? (i := 1175) (by decide +kernel)⟩
theorem lw_p60 : lw_okq (⟨"CoilBenchModel", "ending", "(I)V"⟩, 46) := ⟨⟨by decide +kernel, by decide +kernel⟩, List.mem_of_getElem? (i := 865) (by decide +kernel), List.mem_of_getElem? (i := 1234) (by decide +kernel), List.mem_of_getElem? (i := 1235) (by decide +kernel)⟩
theorem lw_p61 : lw_okq (⟨"CoilBenchModel", "keep", "()V"⟩, 46) := ⟨⟨by decide +kernel, by decide +kernel⟩, List.mem_of_getElem? (i := 865) (by decide +kernel), List.mem_of_getElem? (i := 1249) (by decide +kernel), List.mem_of_getElem? (i := 1250) (by decide +kernel)⟩
theorem lw_p62 : lw_okq (⟨"CoilBenchModel", "ticks", "()V"⟩, 46) := ⟨⟨by decide +kernel, by decide +kernel⟩, List.mem_of_getElem? (i := 865) (by decide +kernel), List.mem_of_getElem? (i := 1253) (by decide +kernel), List.mem_of_getElem? (i := 1254) (by decide +kernel)⟩
theorem lw_p63 : lw_okq (⟨"CoilBenchModel", "look", "()V"⟩, 46) := ⟨⟨by decide +kernel, by decide +kernel⟩, List.mem_of_getElem? (i := 865) (by decide +kernel), List.mem_of_getElem? (i := 1257) (by decide +kernel), List.mem_of_getElem? (i := 1258) (by decide +kernel)⟩
def lw_privs_4 : List (MethodName × Nat) := [(⟨"CoilBenchModel", "namesAndWires", "()V"⟩, 46), (⟨"CoilBenchModel", "toldPart", "(I)V"⟩, 46), (⟨"CoilBenchModel", "isAlike", "(II)Z"⟩, 46), (⟨"CoilBenchModel", "names", "(I)V"⟩, 46), (⟨"CoilBenchModel", "toldWire", "()V"⟩, 46), (⟨"CoilBenchModel", "end", "()I"⟩, 46), (⟨"CoilBenchModel", "named", "(I)I"⟩, 46), (⟨"CoilBenchModel", "join", "(III)V"⟩, 46), (⟨"CoilBenchModel", "rootOf", "(II)I"⟩, 46), (⟨"CoilBenchModel", "bit", "(I)V"⟩, 46), (⟨"CoilBenchModel", "word", "(J)V"⟩, 46), (⟨"CoilBenchModel", "put", "(I)V"⟩, 46), (⟨"CoilBenchModel", "ending", "(I)V"⟩, 46), (⟨"CoilBenchModel", "keep", "()V"⟩, 46), (⟨"CoilBenchModel", "ticks", "()V"⟩, 46), (⟨"CoilBenchModel", "look", "()V"⟩, 46)]
theorem lw_r4 : ∀ q ∈ lw_privs_4, lw_okq q := List.forall_mem_cons.mpr ⟨lw_p48, List.forall_mem_cons.mpr ⟨lw_p49, List.forall_mem_cons.mpr ⟨lw_p50, List.forall_mem_cons.mpr ⟨lw_p51, List.forall_mem_cons.mpr ⟨lw_p52, List.forall_mem_cons.mpr ⟨lw_p53, List.forall_mem_cons.mpr ⟨lw_p54, List.forall_mem_cons.mpr ⟨lw_p55, List.forall_mem_cons.mpr ⟨lw_p56, List.forall_mem_cons.mpr ⟨lw_p57, List.forall_mem_cons.mpr ⟨lw_p58, List.forall_mem_cons.mpr ⟨lw_p59, List.forall_mem_cons.mpr ⟨lw_p60, List.forall_mem_cons.mpr ⟨lw_p61, List.forall_mem_cons.mpr ⟨lw_p62, List.forall_mem_cons.mpr ⟨lw_p63, fun _ h => absurd h List.not_mem_nil⟩⟩⟩⟩⟩⟩⟩⟩⟩⟩⟩⟩⟩⟩⟩⟩
theorem lw_p64 : lw_okq (⟨"CoilBenchModel", "here", "(I)I"⟩, 46) := ⟨⟨by decide +kernel, by decide +kernel⟩, List.mem_of_getElem? (i := 865) (by decide +kernel), List.mem_of_getElem? (i := 1261) (by decide +kernel), List.mem_of_getElem? (i := 1262) (by decide +kernel)⟩
theorem lw_p65 : lw_okq (⟨"CoilBenchModel", "contact1", "(II)V"⟩, 46) := ⟨⟨by decide +kernel, by decide +kernel⟩, List.mem_of_getElem? (i := 865) (by decide +kernel), List.mem_of_getElem? (i := 1265) (by decide +kernel), List.mem_of_getElem? (i := 1266) (by decide +kernel)⟩
theorem lw_p66 : lw_okq (⟨"CoilBenchModel", "both", "(II)V"⟩, 46) := ⟨⟨by decide +kernel, by decide +kernel⟩, List.mem_of_getElem? (i := 865) (by decide +kernel), List.mem_of_getElem? (i := 1269) (by decide +kernel), List.mem_of_getElem? (i := 1270) (by decide +kernel)⟩
theorem lw_p67 : lw_okq (⟨"CoilBenchModel", "groupOf", "(I)I"⟩, 46) := ⟨⟨by decide +kernel, by decide +kernel⟩, List.mem_of_getElem? (i := 865) (by decide +kernel), List.mem_of_getElem? (i := 1273) (by decide +kernel), List.mem_of_getElem? (i := 1274) (by decide +kernel)⟩
theorem lw_p68 : lw_okq (⟨"CoilBenchModel", "endOf", "(III)I"⟩, 46) := ⟨⟨by decide +kernel, by decide +kernel⟩, List.mem_of_getElem? (i := 865) (by decide +kernel), List.mem_of_getElem? (i := 1277) (by decide +kernel), List.mem_of_getElem? (i := 1278) (by decide +kernel)⟩
theorem lw_p69 : lw_okq (⟨"CoilBenchModel", "coil", "(I)V"⟩, 46) := ⟨⟨by decide +kernel, by decide +kernel⟩, List.mem_of_getElem? (i := 865) (by decide +kernel), List.mem_of_getElem? (i := 1281) (by decide +kernel), List.mem_of_getElem? (i := 1282) (by decide +kernel)⟩
theorem lw_p70 : lw_okq (⟨"CoilBenchModel", "isOn", "(II)Z"⟩, 46) := ⟨⟨by decide +kernel, by decide +kernel⟩, List.mem_of_getElem? (i := 865) (by decide +kernel), List.mem_of_getElem? (i := 1285) (by decide +kernel), List.mem_of_getElem? (i := 1286) (by decide +kernel)⟩
theorem lw_p71 : lw_okq (⟨"CoilBenchModel", "isOnlyLive", "(I)Z"⟩, 46) := ⟨⟨by decide +kernel, by decide +kernel⟩, List.mem_of_getElem? (i := 865) (by decide +kernel), List.mem_of_getElem? (i := 1289) (by decide +kernel), List.mem_of_getElem? (i := 1290) (by decide +kernel)⟩
theorem lw_p72 : lw_okq (⟨"CoilBenchModel", "isOnlyGround", "(I)Z"⟩, 46) := ⟨⟨by decide +kernel, by decide +kernel⟩, List.mem_of_getElem? (i := 865) (by decide +kernel), List.mem_of_getElem? (i := 1293) (by decide +kernel), List.mem_of_getElem? (i := 1294) (by decide +kernel)⟩
theorem lw_p73 : lw_okq (⟨"CoilBenchModel", "isNet", "(I)Z"⟩, 46) := ⟨⟨by decide +kernel, by decide +kernel⟩, List.mem_of_getElem? (i := 865) (by decide +kernel), List.mem_of_getElem? (i := 1309) (by decide +kernel), List.mem_of_getElem? (i := 1310) (by decide +kernel)⟩
theorem lw_p74 : lw_okq (⟨"CoilBenchModel", "isContact", "(II)Z"⟩, 46) := ⟨⟨by decide +kernel, by decide +kernel⟩, List.mem_of_getElem? (i := 865) (by decide +kernel), List.mem_of_getElem? (i := 1329) (by decide +kernel), List.mem_of_getElem? (i := 1330) (by decide +kernel)⟩
theorem lw_p75 : lw_okq (⟨"CoilBenchModel", "copy", "([I[I)V"⟩, 46) := ⟨⟨by decide +kernel, by decide +kernel⟩, List.mem_of_getElem? (i := 865) (by decide +kernel), List.mem_of_getElem? (i := 1353) (by decide +kernel), List.mem_of_getElem? (i := 1354) (by decide +kernel)⟩
theorem lw_p76 : lw_okq (⟨"CoilBenchModel", "parts", "(II)Z"⟩, 46) := ⟨⟨by decide +kernel, by decide +kernel⟩, List.mem_of_getElem? (i := 865) (by decide +kernel), List.mem_of_getElem? (i := 1357) (by decide +kernel), List.mem_of_getElem? (i := 1358) (by decide +kernel)⟩
theorem lw_p77 : lw_okq (⟨"CoilBenchModel", "arrange", "(II)V"⟩, 46) := ⟨⟨by decide +kernel, by decide +kernel⟩, List.mem_of_getElem? (i := 865) (by decide +kernel), List.mem_of_getElem? (i := 1361) (by decide +kernel), List.mem_of_getElem? (i := 1362) (by decide +kernel)⟩
def lw_privs_5 : List (MethodName × Nat) := [(⟨"CoilBenchModel", "here", "(I)I"⟩, 46), (⟨"CoilBenchModel", "contact1", "(II)V"⟩, 46), (⟨"CoilBenchModel", "both", "(II)V"⟩, 46), (⟨"CoilBenchModel", "groupOf", "(I)I"⟩, 46), (⟨"CoilBenchModel", "endOf", "(III)I"⟩, 46), (⟨"CoilBenchModel", "coil", "(I)V"⟩, 46), (⟨"CoilBenchModel", "isOn", "(II)Z"⟩, 46), (⟨"CoilBenchModel", "isOnlyLive", "(I)Z"⟩, 46), (⟨"CoilBenchModel", "isOnlyGround", "(I)Z"⟩, 46), (⟨"CoilBenchModel", "isNet", "(I)Z"⟩, 46), (⟨"CoilBenchModel", "isContact", "(II)Z"⟩, 46), (⟨"CoilBenchModel", "copy", "([I[I)V"⟩, 46), (⟨"CoilBenchModel", "parts", "(II)Z"⟩, 46), (⟨"CoilBenchModel", "arrange", "(II)V"⟩, 46)]
theorem lw_r5 : ∀ q ∈ lw_privs_5, lw_okq q := List.forall_mem_cons.mpr ⟨lw_p64, List.forall_mem_cons.mpr ⟨lw_p65, List.forall_mem_cons.mpr ⟨lw_p66, List.forall_mem_cons.mpr ⟨lw_p67, List.forall_mem_cons.mpr ⟨lw_p68, List.forall_mem_cons.mpr ⟨lw_p69, List.forall_mem_cons.mpr ⟨lw_p70, List.forall_mem_cons.mpr ⟨lw_p71, List.forall_mem_cons.mpr ⟨lw_p72, List.forall_mem_cons.mpr ⟨lw_p73, List.forall_mem_cons.mpr ⟨lw_p74, List.forall_mem_cons.mpr ⟨lw_p75, List.forall_mem_cons.mpr ⟨lw_p76, List.forall_mem_cons.mpr ⟨lw_p77, fun _ h => absurd h List.not_mem_nil⟩⟩⟩⟩⟩⟩⟩⟩⟩⟩⟩⟩⟩⟩
def lw_privs : List (MethodName × Nat) := lw_privs_1 ++ (lw_privs_2 ++ (lw_privs_3 ++ (lw_privs_4 ++ (lw_privs_5))))
def lw_tbl : List Cond := k2_sels lw_privs ++ tables_1
theorem lw_privs_ok : ∀ q ∈ lw_privs, lw_okq q := by
  show ∀ q ∈ lw_privs_1 ++ (lw_privs_2 ++ (lw_privs_3 ++ (lw_privs_4 ++ (lw_privs_5)))), lw_okq q
  exact List.forall_mem_append.mpr ⟨lw_r1, List.forall_mem_append.mpr ⟨lw_r2, List.forall_mem_append.mpr ⟨lw_r3, List.forall_mem_append.mpr ⟨lw_r4, lw_r5⟩⟩⟩⟩
/-- the tables' words that a call may carry -/
def TB : List Cond := lw_tbl.filter goodWord
theorem tb_in {w : Cond} (h : w ∈ lw_tbl) (g : goodWord w = true) : w ∈ TB := List.mem_filter.mpr ⟨h, g⟩
theorem tb_good {w : Cond} (h : w ∈ TB) : goodWord w = true := (List.mem_filter.mp h).2
theorem tb_lw {w : Cond} (h : w ∈ TB) : w ∈ lw_tbl := (List.mem_filter.mp h).1
theorem tb_s {q : MethodName × Nat} (h : q ∈ lw_privs) : Cond.selects q.1.cls q.1 q.1 ∈ lw_tbl := List.mem_append_left _ (List.mem_map.mpr ⟨q, h, rfl⟩)
theorem tb_t {w : Cond} (h : w ∈ tables_1) : w ∈ lw_tbl := List.mem_append_right _ h
theorem tb_1 (j : Nat) {w : Cond} (h : tables_1_1[j]? = some w) (g : goodWord w = true) : w ∈ TB := tb_in (tb_t (List.mem_append_left _ (List.mem_of_getElem? h))) g
theorem tl_1 (j : Nat) {w : Cond} (h : tables_1_1[j]? = some w) : w ∈ lw_tbl := tb_t (List.mem_append_left _ (List.mem_of_getElem? h))
theorem tb_2 (j : Nat) {w : Cond} (h : tables_1_2[j]? = some w) (g : goodWord w = true) : w ∈ TB := tb_in (tb_t (List.mem_append_right _ (List.mem_append_left _ (List.mem_of_getElem? h)))) g
theorem tl_2 (j : Nat) {w : Cond} (h : tables_1_2[j]? = some w) : w ∈ lw_tbl := tb_t (List.mem_append_right _ (List.mem_append_left _ (List.mem_of_getElem? h)))
theorem tb_3 (j : Nat) {w : Cond} (h : tables_1_3[j]? = some w) (g : goodWord w = true) : w ∈ TB := tb_in (tb_t (List.mem_append_right _ (List.mem_append_right _ (List.mem_append_left _ (List.mem_of_getElem? h))))) g
theorem tl_3 (j : Nat) {w : Cond} (h : tables_1_3[j]? = some w) : w ∈ lw_tbl := tb_t (List.mem_append_right _ (List.mem_append_right _ (List.mem_append_left _ (List.mem_of_getElem? h))))
theorem tb_4 (j : Nat) {w : Cond} (h : tables_1_4[j]? = some w) (g : goodWord w = true) : w ∈ TB := tb_in (tb_t (List.mem_append_right _ (List.mem_append_right _ (List.mem_append_right _ (List.mem_append_left _ (List.mem_of_getElem? h)))))) g
theorem tl_4 (j : Nat) {w : Cond} (h : tables_1_4[j]? = some w) : w ∈ lw_tbl := tb_t (List.mem_append_right _ (List.mem_append_right _ (List.mem_append_right _ (List.mem_append_left _ (List.mem_of_getElem? h)))))
theorem tb_5 (j : Nat) {w : Cond} (h : tables_1_5[j]? = some w) (g : goodWord w = true) : w ∈ TB := tb_in (tb_t (List.mem_append_right _ (List.mem_append_right _ (List.mem_append_right _ (List.mem_append_right _ (List.mem_append_left _ (List.mem_of_getElem? h))))))) g
theorem tl_5 (j : Nat) {w : Cond} (h : tables_1_5[j]? = some w) : w ∈ lw_tbl := tb_t (List.mem_append_right _ (List.mem_append_right _ (List.mem_append_right _ (List.mem_append_right _ (List.mem_append_left _ (List.mem_of_getElem? h))))))
theorem tb_6 (j : Nat) {w : Cond} (h : tables_1_6[j]? = some w) (g : goodWord w = true) : w ∈ TB := tb_in (tb_t (List.mem_append_right _ (List.mem_append_right _ (List.mem_append_right _ (List.mem_append_right _ (List.mem_append_right _ (List.mem_of_getElem? h))))))) g
theorem tl_6 (j : Nat) {w : Cond} (h : tables_1_6[j]? = some w) : w ∈ lw_tbl := tb_t (List.mem_append_right _ (List.mem_append_right _ (List.mem_append_right _ (List.mem_append_right _ (List.mem_append_right _ (List.mem_of_getElem? h))))))
def RX0 : String := "CoilBench$Adder"
def TX0 : u_T := fun k => match k with
  | _ => ("", "", "", false)
def tyX0 : Nat → FieldType := fun k => match k with
  | _ => .int
theorem nmX0 : ∀ a, a < 0 → ∀ b, b < 0 → a ≠ b → (TX0 a).2.1 ≠ (TX0 b).2.1 := by decide +kernel
theorem tyX0_ok : ∀ k, k < 0 → parseFieldDescriptor (TX0 k).2.2.1 = some (tyX0 k) := by decide +kernel
theorem inX0 : ∀ w ∈ u_ws RX0 TX0 0, w ∈ TB := by
  intro w h
  exact tb_in ((by decide +kernel : ∀ w ∈ u_ws RX0 TX0 0, w ∈ lw_tbl) w h) ((by decide +kernel : ∀ w ∈ u_ws RX0 TX0 0, goodWord w = true) w h)
def RX1 : String := "CoilBench$History"
def TX1 : u_T := fun k => match k with
  | 0 => ("CoilBench$History", "kept", "[LCoilBench$State;", true)
  | 1 => ("CoilBench$History", "next", "I", false)
  | _ => ("CoilBench$History", "size", "I", false)
def tyX1 : Nat → FieldType := fun k => match k with
  | 0 => .array (.object "CoilBench$State")
  | 1 => .int
  | _ => .int
theorem nmX1 : ∀ a, a < 3 → ∀ b, b < 3 → a ≠ b → (TX1 a).2.1 ≠ (TX1 b).2.1 := by decide +kernel
theorem tyX1_ok : ∀ k, k < 3 → parseFieldDescriptor (TX1 k).2.2.1 = some (tyX1 k) := by decide +kernel
theorem inX1 : ∀ w ∈ u_ws RX1 TX1 3, w ∈ TB := by
  intro w h
  exact tb_in ((by decide +kernel : ∀ w ∈ u_ws RX1 TX1 3, w ∈ lw_tbl) w h) ((by decide +kernel : ∀ w ∈ u_ws RX1 TX1 3, goodWord w = true) w h)
def RX2 : String := "CoilBench$Machine"
def TX2 : u_T := fun k => match k with
  | 0 => ("CoilBench$Machine", "netlist", "LCoilBench$Netlist;", false)
  | 1 => ("CoilBench$Machine", "wear", "LCoilBench$Wear;", true)
  | _ => ("CoilBench$Machine", "ways", "LCoilBench$Ways;", true)
def tyX2 : Nat → FieldType := fun k => match k with
  | 0 => .object "CoilBench$Netlist"
  | 1 => .object "CoilBench$Wear"
  | _ => .object "CoilBench$Ways"
theorem nmX2 : ∀ a, a < 3 → ∀ b, b < 3 → a ≠ b → (TX2 a).2.1 ≠ (TX2 b).2.1 := by decide +kernel
theorem tyX2_ok : ∀ k, k < 3 → parseFieldDescriptor (TX2 k).2.2.1 = some (tyX2 k) := by decide +kernel
theorem inX2 : ∀ w ∈ u_ws RX2 TX2 3, w ∈ TB := by
  intro w h
  exact tb_in ((by decide +kernel : ∀ w ∈ u_ws RX2 TX2 3, w ∈ lw_tbl) w h) ((by decide +kernel : ∀ w ∈ u_ws RX2 TX2 3, goodWord w = true) w h)
def RX3 : String := "CoilBench$Netlist"
def TX3 : u_T := fun k => match k with
  | 0 => ("CoilBench$Netlist", "parts", "[I", true)
  | 1 => ("CoilBench$Netlist", "names", "[[J", true)
  | 2 => ("CoilBench$Netlist", "pickTime", "[I", true)
  | 3 => ("CoilBench$Netlist", "dropTime", "[I", true)
  | 4 => ("CoilBench$Netlist", "contacts", "[I", true)
  | 5 => ("CoilBench$Netlist", "makes", "[I", true)
  | 6 => ("CoilBench$Netlist", "period", "[I", true)
  | 7 => ("CoilBench$Netlist", "onTime", "[I", true)
  | 8 => ("CoilBench$Netlist", "told", "[Z", true)
  | 9 => ("CoilBench$Netlist", "joined", "[I", true)
  | 10 => ("CoilBench$Netlist", "netOf", "[I", true)
  | 11 => ("CoilBench$Netlist", "toldNets", "I", false)
  | _ => ("CoilBench$Netlist", "nets", "I", false)
def tyX3 : Nat → FieldType := fun k => match k with
  | 0 => .array .int
  | 1 => .array (.array .long)
  | 2 => .array .int
  | 3 => .array .int
  | 4 => .array .int
  | 5 => .array .int
  | 6 => .array .int
  | 7 => .array .int
  | 8 => .array .boolean
  | 9 => .array .int
  | 10 => .array .int
  | 11 => .int
  | _ => .int
theorem nmX3 : ∀ a, a < 13 → ∀ b, b < 13 → a ≠ b → (TX3 a).2.1 ≠ (TX3 b).2.1 := by decide +kernel
theorem tyX3_ok : ∀ k, k < 13 → parseFieldDescriptor (TX3 k).2.2.1 = some (tyX3 k) := by decide +kernel
theorem inX3 : ∀ w ∈ u_ws RX3 TX3 13, w ∈ TB := by
  intro w h
  exact tb_in ((by decide +kernel : ∀ w ∈ u_ws RX3 TX3 13, w ∈ lw_tbl) w h) ((by decide +kernel : ∀ w ∈ u_ws RX3 TX3 13, goodWord w = true) w h)
def RX4 : String := "CoilBench$Races"
def TX4 : u_T := fun k => match k with
  | 0 => ("CoilBench$Races", "main", "LCoilBench$State;", true)
  | 1 => ("CoilBench$Races", "ahead", "LCoilBench$State;", true)
  | 2 => ("CoilBench$Races", "trial", "LCoilBench$State;", true)
  | 3 => ("CoilBench$Races", "due", "J", false)
  | _ => ("CoilBench$Races", "onTick", "I", false)
def tyX4 : Nat → FieldType := fun k => match k with
  | 0 => .object "CoilBench$State"
  | 1 => .object "CoilBench$State"
  | 2 => .object "CoilBench$State"
  | 3 => .long
  | _ => .int
theorem nmX4 : ∀ a, a < 5 → ∀ b, b < 5 → a ≠ b → (TX4 a).2.1 ≠ (TX4 b).2.1 := by decide +kernel
theorem tyX4_ok : ∀ k, k < 5 → parseFieldDescriptor (TX4 k).2.2.1 = some (tyX4 k) := by decide +kernel
theorem inX4 : ∀ w ∈ u_ws RX4 TX4 5, w ∈ TB := by
  intro w h
  exact tb_in ((by decide +kernel : ∀ w ∈ u_ws RX4 TX4 5, w ∈ lw_tbl) w h) ((by decide +kernel : ∀ w ∈ u_ws RX4 TX4 5, goodWord w = true) w h)
def RX5 : String := "CoilBench$Reader"
def TX5 : u_T := fun k => match k with
  | 0 => ("CoilBench$Reader", "tokens", "LCoilBench$Tokens;", true)
  | 1 => ("CoilBench$Reader", "draft", "LCoilBench$Netlist;", false)
  | 2 => ("CoilBench$Reader", "fault", "I", false)
  | 3 => ("CoilBench$Reader", "faultPlace", "I", false)
  | 4 => ("CoilBench$Reader", "firstMany", "I", false)
  | 5 => ("CoilBench$Reader", "firstTwice", "I", false)
  | 6 => ("CoilBench$Reader", "at", "I", false)
  | 7 => ("CoilBench$Reader", "nameAt", "I", false)
  | 8 => ("CoilBench$Reader", "number", "I", false)
  | 9 => ("CoilBench$Reader", "pinAt", "[I", true)
  | 10 => ("CoilBench$Reader", "pinEnds", "[I", true)
  | 11 => ("CoilBench$Reader", "pinWires", "[I", true)
  | 12 => ("CoilBench$Reader", "pins", "I", false)
  | _ => ("CoilBench$Reader", "wires", "I", false)
def tyX5 : Nat → FieldType := fun k => match k with
  | 0 => .object "CoilBench$Tokens"
  | 1 => .object "CoilBench$Netlist"
  | 2 => .int
  | 3 => .int
  | 4 => .int
  | 5 => .int
  | 6 => .int
  | 7 => .int
  | 8 => .int
  | 9 => .array .int
  | 10 => .array .int
  | 11 => .array .int
  | 12 => .int
  | _ => .int
theorem nmX5 : ∀ a, a < 14 → ∀ b, b < 14 → a ≠ b → (TX5 a).2.1 ≠ (TX5 b).2.1 := by decide +kernel
theorem tyX5_ok : ∀ k, k < 14 → parseFieldDescriptor (TX5 k).2.2.1 = some (tyX5 k) := by decide +kernel
theorem inX5 : ∀ w ∈ u_ws RX5 TX5 14, w ∈ TB := by
  intro w h
  exact tb_in ((by decide +kernel : ∀ w ∈ u_ws RX5 TX5 14, w ∈ lw_tbl) w h) ((by decide +kernel : ∀ w ∈ u_ws RX5 TX5 14, goodWord w = true) w h)
def RX6 : String := "CoilBench$State"
def TX6 : u_T := fun k => match k with
  | 0 => ("CoilBench$State", "picked", "J", false)
  | 1 => ("CoilBench$State", "counts", "[I", true)
  | 2 => ("CoilBench$State", "positions", "[I", true)
  | 3 => ("CoilBench$State", "keys", "I", false)
  | _ => ("CoilBench$State", "time", "I", false)
def tyX6 : Nat → FieldType := fun k => match k with
  | 0 => .long
  | 1 => .array .int
  | 2 => .array .int
  | 3 => .int
  | _ => .int
theorem nmX6 : ∀ a, a < 5 → ∀ b, b < 5 → a ≠ b → (TX6 a).2.1 ≠ (TX6 b).2.1 := by decide +kernel
theorem tyX6_ok : ∀ k, k < 5 → parseFieldDescriptor (TX6 k).2.2.1 = some (tyX6 k) := by decide +kernel
theorem inX6 : ∀ w ∈ u_ws RX6 TX6 5, w ∈ TB := by
  intro w h
  exact tb_in ((by decide +kernel : ∀ w ∈ u_ws RX6 TX6 5, w ∈ lw_tbl) w h) ((by decide +kernel : ∀ w ∈ u_ws RX6 TX6 5, goodWord w = true) w h)
def RX7 : String := "CoilBench$Tokens"
def TX7 : u_T := fun k => match k with
  | 0 => ("CoilBench$Tokens", "text", "[B", true)
  | 1 => ("CoilBench$Tokens", "length", "I", false)
  | 2 => ("CoilBench$Tokens", "kinds", "[I", true)
  | 3 => ("CoilBench$Tokens", "places", "[I", true)
  | 4 => ("CoilBench$Tokens", "values", "[J", true)
  | _ => ("CoilBench$Tokens", "size", "I", false)
def tyX7 : Nat → FieldType := fun k => match k with
  | 0 => .array .byte
  | 1 => .int
  | 2 => .array .int
  | 3 => .array .int
  | 4 => .array .long
  | _ => .int
theorem nmX7 : ∀ a, a < 6 → ∀ b, b < 6 → a ≠ b → (TX7 a).2.1 ≠ (TX7 b).2.1 := by decide +kernel
theorem tyX7_ok : ∀ k, k < 6 → parseFieldDescriptor (TX7 k).2.2.1 = some (tyX7 k) := by decide +kernel
theorem inX7 : ∀ w ∈ u_ws RX7 TX7 6, w ∈ TB := by
  intro w h
  exact tb_in ((by decide +kernel : ∀ w ∈ u_ws RX7 TX7 6, w ∈ lw_tbl) w h) ((by decide +kernel : ∀ w ∈ u_ws RX7 TX7 6, goodWord w = true) w h)
def RX8 : String := "CoilBench$Ways"
def TX8 : u_T := fun k => match k with
  | 0 => ("CoilBench$Ways", "nets", "I", false)
  | 1 => ("CoilBench$Ways", "links", "I", false)
  | 2 => ("CoilBench$Ways", "firstLink", "[I", true)
  | 3 => ("CoilBench$Ways", "nextLink", "[I", true)
  | 4 => ("CoilBench$Ways", "leadsTo", "[I", true)
  | 5 => ("CoilBench$Ways", "lets", "[I", true)
  | 6 => ("CoilBench$Ways", "powers", "[I", true)
  | _ => ("CoilBench$Ways", "reached", "[I", true)
def tyX8 : Nat → FieldType := fun k => match k with
  | 0 => .int
  | 1 => .int
  | 2 => .array .int
  | 3 => .array .int
  | 4 => .array .int
  | 5 => .array .int
  | 6 => .array .int
  | _ => .array .int
theorem nmX8 : ∀ a, a < 8 → ∀ b, b < 8 → a ≠ b → (TX8 a).2.1 ≠ (TX8 b).2.1 := by decide +kernel
theorem tyX8_ok : ∀ k, k < 8 → parseFieldDescriptor (TX8 k).2.2.1 = some (tyX8 k) := by decide +kernel
theorem inX8 : ∀ w ∈ u_ws RX8 TX8 8, w ∈ TB := by
  intro w h
  exact tb_in ((by decide +kernel : ∀ w ∈ u_ws RX8 TX8 8, w ∈ lw_tbl) w h) ((by decide +kernel : ∀ w ∈ u_ws RX8 TX8 8, goodWord w = true) w h)
def RX9 : String := "CoilBench$Wear"
def TX9 : u_T := fun k => match k with
  | 0 => ("CoilBench$Wear", "stuckAt", "[I", true)
  | _ => ("CoilBench$Wear", "dusty", "[Z", true)
def tyX9 : Nat → FieldType := fun k => match k with
  | 0 => .array .int
  | _ => .array .boolean
theorem nmX9 : ∀ a, a < 2 → ∀ b, b < 2 → a ≠ b → (TX9 a).2.1 ≠ (TX9 b).2.1 := by decide +kernel
theorem tyX9_ok : ∀ k, k < 2 → parseFieldDescriptor (TX9 k).2.2.1 = some (tyX9 k) := by decide +kernel
theorem inX9 : ∀ w ∈ u_ws RX9 TX9 2, w ∈ TB := by
  intro w h
  exact tb_in ((by decide +kernel : ∀ w ∈ u_ws RX9 TX9 2, w ∈ lw_tbl) w h) ((by decide +kernel : ∀ w ∈ u_ws RX9 TX9 2, goodWord w = true) w h)
def RX10 : String := "CoilBench"
def TX10 : u_T := fun k => match k with
  | 0 => ("CoilBench", "tape", "[B", true)
  | 1 => ("CoilBench", "taped", "I", false)
  | 2 => ("CoilBench", "fault", "I", false)
  | 3 => ("CoilBench", "faultPlace", "I", false)
  | 4 => ("CoilBench", "reader", "LCoilBench$Reader;", true)
  | 5 => ("CoilBench", "machine", "LCoilBench$Machine;", true)
  | 6 => ("CoilBench", "state", "LCoilBench$State;", true)
  | 7 => ("CoilBench", "history", "LCoilBench$History;", true)
  | _ => ("CoilBench", "races", "LCoilBench$Races;", true)
def tyX10 : Nat → FieldType := fun k => match k with
  | 0 => .array .byte
  | 1 => .int
  | 2 => .int
  | 3 => .int
  | 4 => .object "CoilBench$Reader"
  | 5 => .object "CoilBench$Machine"
  | 6 => .object "CoilBench$State"
  | 7 => .object "CoilBench$History"
  | _ => .object "CoilBench$Races"
theorem nmX10 : ∀ a, a < 9 → ∀ b, b < 9 → a ≠ b → (TX10 a).2.1 ≠ (TX10 b).2.1 := by decide +kernel
theorem tyX10_ok : ∀ k, k < 9 → parseFieldDescriptor (TX10 k).2.2.1 = some (tyX10 k) := by decide +kernel
theorem inX10 : ∀ w ∈ u_ws RX10 TX10 9, w ∈ TB := by
  intro w h
  exact tb_in ((by decide +kernel : ∀ w ∈ u_ws RX10 TX10 9, w ∈ lw_tbl) w h) ((by decide +kernel : ∀ w ∈ u_ws RX10 TX10 9, goodWord w = true) w h)
def RX11 : String := "CoilBenchModel"
def TX11 : u_T := fun k => match k with
  | 0 => ("CoilBenchModel", "tape", "[B", true)
  | 1 => ("CoilBenchModel", "text", "[B", true)
  | 2 => ("CoilBenchModel", "taped", "I", false)
  | 3 => ("CoilBenchModel", "size", "I", false)
  | 4 => ("CoilBenchModel", "tKind", "[I", true)
  | 5 => ("CoilBenchModel", "tPlace", "[I", true)
  | 6 => ("CoilBenchModel", "tSize", "[I", true)
  | 7 => ("CoilBenchModel", "tValue", "[J", true)
  | 8 => ("CoilBenchModel", "tokens", "I", false)
  | 9 => ("CoilBenchModel", "at", "I", false)
  | 10 => ("CoilBenchModel", "wrong", "I", false)
  | 11 => ("CoilBenchModel", "wrongAt", "I", false)
  | 12 => ("CoilBenchModel", "fault", "I", false)
  | 13 => ("CoilBenchModel", "faultAt", "I", false)
  | 14 => ("CoilBenchModel", "side", "I", false)
  | 15 => ("CoilBenchModel", "many", "[I", true)
  | 16 => ("CoilBenchModel", "nameSize", "[I", true)
  | 17 => ("CoilBenchModel", "one", "[I", true)
  | 18 => ("CoilBenchModel", "two", "[I", true)
  | 19 => ("CoilBenchModel", "kinds", "[I", true)
  | 20 => ("CoilBenchModel", "kindBits", "[I", true)
  | 21 => ("CoilBenchModel", "names", "[B", true)
  | 22 => ("CoilBenchModel", "netOf", "[I", true)
  | 23 => ("CoilBenchModel", "isTold", "[Z", true)
  | 24 => ("CoilBenchModel", "fresh", "I", false)
  | 25 => ("CoilBenchModel", "soFar", "[I", true)
  | 26 => ("CoilBenchModel", "state", "[I", true)
  | 27 => ("CoilBenchModel", "stuck", "[I", true)
  | 28 => ("CoilBenchModel", "dusty", "[Z", true)
  | 29 => ("CoilBenchModel", "joined", "[I", true)
  | 30 => ("CoilBenchModel", "live", "[Z", true)
  | 31 => ("CoilBenchModel", "ground", "[Z", true)
  | 32 => ("CoilBenchModel", "part", "[I", true)
  | 33 => ("CoilBenchModel", "past", "[I", true)
  | 34 => ("CoilBenchModel", "kept", "I", false)
  | 35 => ("CoilBenchModel", "latest", "I", false)
  | 36 => ("CoilBenchModel", "begun", "[I", true)
  | 37 => ("CoilBenchModel", "ahead", "[I", true)
  | 38 => ("CoilBenchModel", "due", "[I", true)
  | 39 => ("CoilBenchModel", "order", "[I", true)
  | 40 => ("CoilBenchModel", "picked", "[I", true)
  | 41 => ("CoilBenchModel", "raceTick", "I", false)
  | 42 => ("CoilBenchModel", "raceMany", "I", false)
  | 43 => ("CoilBenchModel", "raceCoils", "[I", true)
  | 44 => ("CoilBenchModel", "after", "[I", true)
  | _ => ("CoilBenchModel", "used", "[Z", true)
def tyX11 : Nat → FieldType := fun k => match k with
  | 0 => .array .byte
  | 1 => .array .byte
  | 2 => .int
  | 3 => .int
  | 4 => .array .int
  | 5 => .array .int
  | 6 => .array .int
  | 7 => .array .long
  | 8 => .int
  | 9 => .int
  | 10 => .int
  | 11 => .int
  | 12 => .int
  | 13 => .int
  | 14 => .int
  | 15 => .array .int
  | 16 => .array .int
  | 17 => .array .int
  | 18 => .array .int
  | 19 => .array .int
  | 20 => .array .int
  | 21 => .array .byte
  | 22 => .array .int
  | 23 => .array .boolean
  | 24 => .int
  | 25 => .array .int
  | 26 => .array .int
  | 27 => .array .int
  | 28 => .array .boolean
  | 29 => .array .int
  | 30 => .array .boolean
  | 31 => .array .boolean
  | 32 => .array .int
  | 33 => .array .int
  | 34 => .int
  | 35 => .int
  | 36 => .array .int
  | 37 => .array .int
  | 38 => .array .int
  | 39 => .array .int
  | 40 => .array .int
  | 41 => .int
  | 42 => .int
  | 43 => .array .int
  | 44 => .array .int
  | _ => .array .boolean
theorem nmX11 : ∀ a, a < 46 → ∀ b, b < 46 → a ≠ b → (TX11 a).2.1 ≠ (TX11 b).2.1 := by decide +kernel
theorem tyX11_ok : ∀ k, k < 46 → parseFieldDescriptor (TX11 k).2.2.1 = some (tyX11 k) := by decide +kernel
theorem inX11 : ∀ w ∈ u_ws RX11 TX11 46, w ∈ TB := by
  intro w h
  exact tb_in ((by decide +kernel : ∀ w ∈ u_ws RX11 TX11 46, w ∈ lw_tbl) w h) ((by decide +kernel : ∀ w ∈ u_ws RX11 TX11 46, goodWord w = true) w h)
