-- ===== PART A: goes FIRST, ahead of the names: the tables' words, and 'selects' of the private methods out of them =====
/-- a private method of a class that the tables say can be made, by its rows of tables_1 -/
def lw_okq (q : MethodName × Nat) : Prop := (q.1.cls ≠ "java/lang/invoke/MethodHandle" ∧ q.1.cls ≠ "java/lang/invoke/VarHandle") ∧ Cond.instantiable q.1.cls q.2 ∈ tables_1 ∧ Cond.privateMethod q.1 ∈ tables_1 ∧ Cond.instanceMethod q.1 ∈ tables_1
def mnOf : Cond → MethodName
  | .privateMethod m => m
  | _ => ⟨"", "", ""⟩
/-- a name as the tables give it (rows of a hand-in may not spell it): the private method of DrawnMaps$Blocks that comes third there -/
def nmB : MethodName := mnOf (tables_1_3.getD 89 (.initialized ""))
theorem lw_p0 : lw_okq (⟨"DrawnMaps", "append", "(I)V"⟩, 13) := ⟨⟨by decide +kernel, by decide +kernel⟩, List.mem_of_getElem? (i := 15) (by decide +kernel), List.mem_of_getElem? (i := 302) (by decide +kernel), List.mem_of_getElem? (i := 303) (by decide +kernel)⟩
theorem lw_p1 : lw_okq (⟨"DrawnMaps", "turn", "(I)I"⟩, 13) := ⟨⟨by decide +kernel, by decide +kernel⟩, List.mem_of_getElem? (i := 15) (by decide +kernel), List.mem_of_getElem? (i := 331) (by decide +kernel), List.mem_of_getElem? (i := 332) (by decide +kernel)⟩
theorem lw_p2 : lw_okq (⟨"DrawnMaps", "put", "(II)V"⟩, 13) := ⟨⟨by decide +kernel, by decide +kernel⟩, List.mem_of_getElem? (i := 15) (by decide +kernel), List.mem_of_getElem? (i := 350) (by decide +kernel), List.mem_of_getElem? (i := 351) (by decide +kernel)⟩
theorem lw_p3 : lw_okq (⟨"DrawnMaps", "readable", "(I)Z"⟩, 13) := ⟨⟨by decide +kernel, by decide +kernel⟩, List.mem_of_getElem? (i := 15) (by decide +kernel), List.mem_of_getElem? (i := 358) (by decide +kernel), List.mem_of_getElem? (i := 359) (by decide +kernel)⟩
theorem lw_p4 : lw_okq (⟨"DrawnMaps$Reader", "step", "(ZI)I"⟩, 6) := ⟨⟨by decide +kernel, by decide +kernel⟩, List.mem_of_getElem? (i := 233) (by decide +kernel), List.mem_of_getElem? (i := 370) (by decide +kernel), List.mem_of_getElem? (i := 371) (by decide +kernel)⟩
theorem lw_p5 : lw_okq (⟨"DrawnMaps$Reader", "close", "()I"⟩, 6) := ⟨⟨by decide +kernel, by decide +kernel⟩, List.mem_of_getElem? (i := 233) (by decide +kernel), List.mem_of_getElem? (i := 374) (by decide +kernel), List.mem_of_getElem? (i := 375) (by decide +kernel)⟩
theorem lw_p6 : lw_okq (⟨"DrawnMaps$Reader", "number", "(I)I"⟩, 6) := ⟨⟨by decide +kernel, by decide +kernel⟩, List.mem_of_getElem? (i := 233) (by decide +kernel), List.mem_of_getElem? (i := 379) (by decide +kernel), List.mem_of_getElem? (i := 380) (by decide +kernel)⟩
theorem lw_p7 : lw_okq (⟨"DrawnMaps", "shuffled", "(I)I"⟩, 13) := ⟨⟨by decide +kernel, by decide +kernel⟩, List.mem_of_getElem? (i := 15) (by decide +kernel), List.mem_of_getElem? (i := 397) (by decide +kernel), List.mem_of_getElem? (i := 398) (by decide +kernel)⟩
theorem lw_p8 : lw_okq (⟨"DrawnMaps$Relabels", "laid", "(III)I"⟩, 10) := ⟨⟨by decide +kernel, by decide +kernel⟩, List.mem_of_getElem? (i := 61) (by decide +kernel), List.mem_of_getElem? (i := 457) (by decide +kernel), List.mem_of_getElem? (i := 458) (by decide +kernel)⟩
theorem lw_p9 : lw_okq (⟨"DrawnMaps", "dartStands", "(I)Z"⟩, 13) := ⟨⟨by decide +kernel, by decide +kernel⟩, List.mem_of_getElem? (i := 15) (by decide +kernel), List.mem_of_getElem? (i := 502) (by decide +kernel), List.mem_of_getElem? (i := 503) (by decide +kernel)⟩
theorem lw_p10 : lw_okq (⟨"DrawnMaps", "connected", "()Z"⟩, 13) := ⟨⟨by decide +kernel, by decide +kernel⟩, List.mem_of_getElem? (i := 15) (by decide +kernel), List.mem_of_getElem? (i := 525) (by decide +kernel), List.mem_of_getElem? (i := 526) (by decide +kernel)⟩
theorem lw_p11 : lw_okq (⟨"DrawnMaps$Chain", "sift", "(II)V"⟩, 3) := ⟨⟨by decide +kernel, by decide +kernel⟩, List.mem_of_getElem? (i := 104) (by decide +kernel), List.mem_of_getElem? (i := 540) (by decide +kernel), List.mem_of_getElem? (i := 541) (by decide +kernel)⟩
theorem lw_p12 : lw_okq (⟨"DrawnMaps$Chain", "found", "(I)I"⟩, 3) := ⟨⟨by decide +kernel, by decide +kernel⟩, List.mem_of_getElem? (i := 104) (by decide +kernel), List.mem_of_getElem? (i := 552) (by decide +kernel), List.mem_of_getElem? (i := 553) (by decide +kernel)⟩
theorem lw_p13 : lw_okq (⟨"DrawnMaps$Blocks", "lay", "(III)Z"⟩, 2) := ⟨⟨by decide +kernel, by decide +kernel⟩, List.mem_of_getElem? (i := 145) (by decide +kernel), List.mem_of_getElem? (i := 565) (by decide +kernel), List.mem_of_getElem? (i := 566) (by decide +kernel)⟩
theorem lw_p14 : lw_okq (⟨"DrawnMaps$Blocks", nmB.name, "(I)Z"⟩, 2) := ⟨⟨by decide +kernel, by decide +kernel⟩, List.mem_of_getElem? (i := 145) (by decide +kernel), List.mem_of_getElem? (i := 569) (by decide +kernel), List.mem_of_getElem? (i := 570) (by decide +kernel)⟩
theorem lw_p15 : lw_okq (⟨"DrawnMaps$Blocks", "sort", "()V"⟩, 2) := ⟨⟨by decide +kernel, by decide +kernel⟩, List.mem_of_getElem? (i := 145) (by decide +kernel), List.mem_of_getElem? (i := 578) (by decide +kernel), List.mem_of_getElem? (i := 579) (by decide +kernel)⟩
def lw_privs_1 : List (MethodName × Nat) := [(⟨"DrawnMaps", "append", "(I)V"⟩, 13), (⟨"DrawnMaps", "turn", "(I)I"⟩, 13), (⟨"DrawnMaps", "put", "(II)V"⟩, 13), (⟨"DrawnMaps", "readable", "(I)Z"⟩, 13), (⟨"DrawnMaps$Reader", "step", "(ZI)I"⟩, 6), (⟨"DrawnMaps$Reader", "close", "()I"⟩, 6), (⟨"DrawnMaps$Reader", "number", "(I)I"⟩, 6), (⟨"DrawnMaps", "shuffled", "(I)I"⟩, 13), (⟨"DrawnMaps$Relabels", "laid", "(III)I"⟩, 10), (⟨"DrawnMaps", "dartStands", "(I)Z"⟩, 13), (⟨"DrawnMaps", "connected", "()Z"⟩, 13), (⟨"DrawnMaps$Chain", "sift", "(II)V"⟩, 3), (⟨"DrawnMaps$Chain", "found", "(I)I"⟩, 3), (⟨"DrawnMaps$Blocks", "lay", "(III)Z"⟩, 2), (⟨"DrawnMaps$Blocks", nmB.name, "(I)Z"⟩, 2), (⟨"DrawnMaps$Blocks", "sort", "()V"⟩, 2)]
theorem lw_r1 : ∀ q ∈ lw_privs_1, lw_okq q := List.forall_mem_cons.mpr ⟨lw_p0, List.forall_mem_cons.mpr ⟨lw_p1, List.forall_mem_cons.mpr ⟨lw_p2, List.forall_mem_cons.mpr ⟨lw_p3, List.forall_mem_cons.mpr ⟨lw_p4, List.forall_mem_cons.mpr ⟨lw_p5, List.forall_mem_cons.mpr ⟨lw_p6, List.forall_mem_cons.mpr ⟨lw_p7, List.forall_mem_cons.mpr ⟨lw_p8, List.forall_mem_cons.mpr ⟨lw_p9, List.forall_mem_cons.mpr ⟨lw_p10, List.forall_mem_cons.mpr ⟨lw_p11, List.forall_mem_cons.mpr ⟨lw_p12, List.forall_mem_cons.mpr ⟨lw_p13, List.forall_mem_cons.mpr ⟨lw_p14, List.forall_mem_cons.mpr ⟨lw_p15, fun _ h => absurd h List.not_mem_nil⟩⟩⟩⟩⟩⟩⟩⟩⟩⟩⟩⟩⟩⟩⟩⟩
theorem lw_p16 : lw_okq (⟨"DrawnMaps", "siblings", "()I"⟩, 13) := ⟨⟨by decide +kernel, by decide +kernel⟩, List.mem_of_getElem? (i := 15) (by decide +kernel), List.mem_of_getElem? (i := 593) (by decide +kernel), List.mem_of_getElem? (i := 594) (by decide +kernel)⟩
theorem lw_p17 : lw_okq (⟨"DrawnMaps$Census", "belongs", "(II)Z"⟩, 16) := ⟨⟨by decide +kernel, by decide +kernel⟩, List.mem_of_getElem? (i := 158) (by decide +kernel), List.mem_of_getElem? (i := 618) (by decide +kernel), List.mem_of_getElem? (i := 619) (by decide +kernel)⟩
theorem lw_p18 : lw_okq (⟨"DrawnMaps$Census", "open", "(LDrawnMaps$Relabels;I)V"⟩, 16) := ⟨⟨by decide +kernel, by decide +kernel⟩, List.mem_of_getElem? (i := 158) (by decide +kernel), List.mem_of_getElem? (i := 624) (by decide +kernel), List.mem_of_getElem? (i := 625) (by decide +kernel)⟩
theorem lw_p19 : lw_okq (⟨"DrawnMaps", "kindStands", "(I)Z"⟩, 13) := ⟨⟨by decide +kernel, by decide +kernel⟩, List.mem_of_getElem? (i := 15) (by decide +kernel), List.mem_of_getElem? (i := 674) (by decide +kernel), List.mem_of_getElem? (i := 675) (by decide +kernel)⟩
theorem lw_p20 : lw_okq (⟨"DrawnMaps$Group", "add", "(II)V"⟩, 6) := ⟨⟨by decide +kernel, by decide +kernel⟩, List.mem_of_getElem? (i := 120) (by decide +kernel), List.mem_of_getElem? (i := 696) (by decide +kernel), List.mem_of_getElem? (i := 697) (by decide +kernel)⟩
theorem lw_p21 : lw_okq (⟨"DrawnMaps$Census", "tell", "(II)V"⟩, 16) := ⟨⟨by decide +kernel, by decide +kernel⟩, List.mem_of_getElem? (i := 158) (by decide +kernel), List.mem_of_getElem? (i := 781) (by decide +kernel), List.mem_of_getElem? (i := 782) (by decide +kernel)⟩
theorem lw_p22 : lw_okq (⟨"DrawnMaps", "connectedMaps", "(III)J"⟩, 13) := ⟨⟨by decide +kernel, by decide +kernel⟩, List.mem_of_getElem? (i := 15) (by decide +kernel), List.mem_of_getElem? (i := 790) (by decide +kernel), List.mem_of_getElem? (i := 791) (by decide +kernel)⟩
theorem lw_p23 : lw_okq (⟨"DrawnMaps", "ofClass", "(IIII)I"⟩, 13) := ⟨⟨by decide +kernel, by decide +kernel⟩, List.mem_of_getElem? (i := 15) (by decide +kernel), List.mem_of_getElem? (i := 807) (by decide +kernel), List.mem_of_getElem? (i := 808) (by decide +kernel)⟩
theorem lw_p24 : lw_okq (⟨"DrawnMaps$Family", "add", "(II)V"⟩, 3) := ⟨⟨by decide +kernel, by decide +kernel⟩, List.mem_of_getElem? (i := 216) (by decide +kernel), List.mem_of_getElem? (i := 839) (by decide +kernel), List.mem_of_getElem? (i := 840) (by decide +kernel)⟩
theorem lw_p25 : lw_okq (⟨"DrawnMaps$Family", "sort", "()V"⟩, 3) := ⟨⟨by decide +kernel, by decide +kernel⟩, List.mem_of_getElem? (i := 216) (by decide +kernel), List.mem_of_getElem? (i := 845) (by decide +kernel), List.mem_of_getElem? (i := 846) (by decide +kernel)⟩
theorem lw_p26 : lw_okq (⟨"DrawnMaps$Family", "behind", "(II)Z"⟩, 3) := ⟨⟨by decide +kernel, by decide +kernel⟩, List.mem_of_getElem? (i := 216) (by decide +kernel), List.mem_of_getElem? (i := 849) (by decide +kernel), List.mem_of_getElem? (i := 850) (by decide +kernel)⟩
theorem lw_p27 : lw_okq (⟨"DrawnMaps", "spelt", "(I)I"⟩, 13) := ⟨⟨by decide +kernel, by decide +kernel⟩, List.mem_of_getElem? (i := 15) (by decide +kernel), List.mem_of_getElem? (i := 866) (by decide +kernel), List.mem_of_getElem? (i := 867) (by decide +kernel)⟩
theorem lw_p28 : lw_okq (⟨"DrawnMaps", "letter", "(I)I"⟩, 13) := ⟨⟨by decide +kernel, by decide +kernel⟩, List.mem_of_getElem? (i := 15) (by decide +kernel), List.mem_of_getElem? (i := 870) (by decide +kernel), List.mem_of_getElem? (i := 871) (by decide +kernel)⟩
theorem lw_p29 : lw_okq (⟨"DrawnMapsModel", "begins", "(I)V"⟩, 59) := ⟨⟨by decide +kernel, by decide +kernel⟩, List.mem_of_getElem? (i := 946) (by decide +kernel), List.mem_of_getElem? (i := 952) (by decide +kernel), List.mem_of_getElem? (i := 953) (by decide +kernel)⟩
theorem lw_p30 : lw_okq (⟨"DrawnMapsModel", "becomes", "(I)V"⟩, 59) := ⟨⟨by decide +kernel, by decide +kernel⟩, List.mem_of_getElem? (i := 946) (by decide +kernel), List.mem_of_getElem? (i := 956) (by decide +kernel), List.mem_of_getElem? (i := 957) (by decide +kernel)⟩
theorem lw_p31 : lw_okq (⟨"DrawnMapsModel", "laysAll", "()V"⟩, 59) := ⟨⟨by decide +kernel, by decide +kernel⟩, List.mem_of_getElem? (i := 946) (by decide +kernel), List.mem_of_getElem? (i := 960) (by decide +kernel), List.mem_of_getElem? (i := 961) (by decide +kernel)⟩
def lw_privs_2 : List (MethodName × Nat) := [(⟨"DrawnMaps", "siblings", "()I"⟩, 13), (⟨"DrawnMaps$Census", "belongs", "(II)Z"⟩, 16), (⟨"DrawnMaps$Census", "open", "(LDrawnMaps$Relabels;I)V"⟩, 16), (⟨"DrawnMaps", "kindStands", "(I)Z"⟩, 13), (⟨"DrawnMaps$Group", "add", "(II)V"⟩, 6), (⟨"DrawnMaps$Census", "tell", "(II)V"⟩, 16), (⟨"DrawnMaps", "connectedMaps", "(III)J"⟩, 13), (⟨"DrawnMaps", "ofClass", "(IIII)I"⟩, 13), (⟨"DrawnMaps$Family", "add", "(II)V"⟩, 3), (⟨"DrawnMaps$Family", "sort", "()V"⟩, 3), (⟨"DrawnMaps$Family", "behind", "(II)Z"⟩, 3), (⟨"DrawnMaps", "spelt", "(I)I"⟩, 13), (⟨"DrawnMaps", "letter", "(I)I"⟩, 13), (⟨"DrawnMapsModel", "begins", "(I)V"⟩, 59), (⟨"DrawnMapsModel", "becomes", "(I)V"⟩, 59), (⟨"DrawnMapsModel", "laysAll", "()V"⟩, 59)]
theorem lw_r2 : ∀ q ∈ lw_privs_2, lw_okq q := List.forall_mem_cons.mpr ⟨lw_p16, List.forall_mem_cons.mpr ⟨lw_p17, List.forall_mem_cons.mpr ⟨lw_p18, List.forall_mem_cons.mpr ⟨lw_p19, List.forall_mem_cons.mpr ⟨lw_p20, List.forall_mem_cons.mpr ⟨lw_p21, List.forall_mem_cons.mpr ⟨lw_p22, List.forall_mem_cons.mpr ⟨lw_p23, List.forall_mem_cons.mpr ⟨lw_p24, List.forall_mem_cons.mpr ⟨lw_p25, List.forall_mem_cons.mpr ⟨lw_p26, List.forall_mem_cons.mpr ⟨lw_p27, List.forall_mem_cons.mpr ⟨lw_p28, List.forall_mem_cons.mpr ⟨lw_p29, List.forall_mem_cons.mpr ⟨lw_p30, List.forall_mem_cons.mpr ⟨lw_p31, fun _ h => absurd h List.not_mem_nil⟩⟩⟩⟩⟩⟩⟩⟩⟩⟩⟩⟩⟩⟩⟩⟩
theorem lw_p32 : lw_okq (⟨"DrawnMapsModel", "told", "([I)I"⟩, 59) := ⟨⟨by decide +kernel, by decide +kernel⟩, List.mem_of_getElem? (i := 946) (by decide +kernel), List.mem_of_getElem? (i := 964) (by decide +kernel), List.mem_of_getElem? (i := 965) (by decide +kernel)⟩
theorem lw_p33 : lw_okq (⟨"DrawnMapsModel", "typeOf", "(I)I"⟩, 59) := ⟨⟨by decide +kernel, by decide +kernel⟩, List.mem_of_getElem? (i := 946) (by decide +kernel), List.mem_of_getElem? (i := 968) (by decide +kernel), List.mem_of_getElem? (i := 969) (by decide +kernel)⟩
theorem lw_p34 : lw_okq (⟨"DrawnMapsModel", "isLeast", "(II)Z"⟩, 59) := ⟨⟨by decide +kernel, by decide +kernel⟩, List.mem_of_getElem? (i := 946) (by decide +kernel), List.mem_of_getElem? (i := 972) (by decide +kernel), List.mem_of_getElem? (i := 973) (by decide +kernel)⟩
theorem lw_p35 : lw_okq (⟨"DrawnMapsModel", "reads", "(I[I)V"⟩, 59) := ⟨⟨by decide +kernel, by decide +kernel⟩, List.mem_of_getElem? (i := 946) (by decide +kernel), List.mem_of_getElem? (i := 976) (by decide +kernel), List.mem_of_getElem? (i := 977) (by decide +kernel)⟩
theorem lw_p36 : lw_okq (⟨"DrawnMapsModel", "cycleLong", "(II)I"⟩, 59) := ⟨⟨by decide +kernel, by decide +kernel⟩, List.mem_of_getElem? (i := 946) (by decide +kernel), List.mem_of_getElem? (i := 980) (by decide +kernel), List.mem_of_getElem? (i := 981) (by decide +kernel)⟩
theorem lw_p37 : lw_okq (⟨"DrawnMapsModel", "goesOn", "([I)Z"⟩, 59) := ⟨⟨by decide +kernel, by decide +kernel⟩, List.mem_of_getElem? (i := 946) (by decide +kernel), List.mem_of_getElem? (i := 984) (by decide +kernel), List.mem_of_getElem? (i := 985) (by decide +kernel)⟩
theorem lw_p38 : lw_okq (⟨"DrawnMapsModel", "kindOf", "(I)I"⟩, 59) := ⟨⟨by decide +kernel, by decide +kernel⟩, List.mem_of_getElem? (i := 946) (by decide +kernel), List.mem_of_getElem? (i := 988) (by decide +kernel), List.mem_of_getElem? (i := 989) (by decide +kernel)⟩
theorem lw_p39 : lw_okq (⟨"DrawnMapsModel", "stays", "()I"⟩, 59) := ⟨⟨by decide +kernel, by decide +kernel⟩, List.mem_of_getElem? (i := 946) (by decide +kernel), List.mem_of_getElem? (i := 992) (by decide +kernel), List.mem_of_getElem? (i := 993) (by decide +kernel)⟩
theorem lw_p40 : lw_okq (⟨"DrawnMapsModel", "typed4", "(I)V"⟩, 59) := ⟨⟨by decide +kernel, by decide +kernel⟩, List.mem_of_getElem? (i := 946) (by decide +kernel), List.mem_of_getElem? (i := 1179) (by decide +kernel), List.mem_of_getElem? (i := 1180) (by decide +kernel)⟩
theorem lw_p41 : lw_okq (⟨"DrawnMapsModel", "isCode", "(I)Z"⟩, 59) := ⟨⟨by decide +kernel, by decide +kernel⟩, List.mem_of_getElem? (i := 946) (by decide +kernel), List.mem_of_getElem? (i := 1194) (by decide +kernel), List.mem_of_getElem? (i := 1195) (by decide +kernel)⟩
theorem lw_p42 : lw_okq (⟨"DrawnMapsModel", "isDart", "(I)Z"⟩, 59) := ⟨⟨by decide +kernel, by decide +kernel⟩, List.mem_of_getElem? (i := 946) (by decide +kernel), List.mem_of_getElem? (i := 1198) (by decide +kernel), List.mem_of_getElem? (i := 1199) (by decide +kernel)⟩
theorem lw_p43 : lw_okq (⟨"DrawnMapsModel", "codeOf", "(I)I"⟩, 59) := ⟨⟨by decide +kernel, by decide +kernel⟩, List.mem_of_getElem? (i := 946) (by decide +kernel), List.mem_of_getElem? (i := 1202) (by decide +kernel), List.mem_of_getElem? (i := 1203) (by decide +kernel)⟩
theorem lw_p44 : lw_okq (⟨"DrawnMapsModel", "facesOf", "(II)I"⟩, 59) := ⟨⟨by decide +kernel, by decide +kernel⟩, List.mem_of_getElem? (i := 946) (by decide +kernel), List.mem_of_getElem? (i := 1206) (by decide +kernel), List.mem_of_getElem? (i := 1207) (by decide +kernel)⟩
theorem lw_p45 : lw_okq (⟨"DrawnMapsModel", "then", "(II)I"⟩, 59) := ⟨⟨by decide +kernel, by decide +kernel⟩, List.mem_of_getElem? (i := 946) (by decide +kernel), List.mem_of_getElem? (i := 1210) (by decide +kernel), List.mem_of_getElem? (i := 1211) (by decide +kernel)⟩
theorem lw_p46 : lw_okq (⟨"DrawnMapsModel", "back", "(I)I"⟩, 59) := ⟨⟨by decide +kernel, by decide +kernel⟩, List.mem_of_getElem? (i := 946) (by decide +kernel), List.mem_of_getElem? (i := 1214) (by decide +kernel), List.mem_of_getElem? (i := 1215) (by decide +kernel)⟩
theorem lw_p47 : lw_okq (⟨"DrawnMapsModel", "puts", "(II)V"⟩, 59) := ⟨⟨by decide +kernel, by decide +kernel⟩, List.mem_of_getElem? (i := 946) (by decide +kernel), List.mem_of_getElem? (i := 1218) (by decide +kernel), List.mem_of_getElem? (i := 1219) (by decide +kernel)⟩
def lw_privs_3 : List (MethodName × Nat) := [(⟨"DrawnMapsModel", "told", "([I)I"⟩, 59), (⟨"DrawnMapsModel", "typeOf", "(I)I"⟩, 59), (⟨"DrawnMapsModel", "isLeast", "(II)Z"⟩, 59), (⟨"DrawnMapsModel", "reads", "(I[I)V"⟩, 59), (⟨"DrawnMapsModel", "cycleLong", "(II)I"⟩, 59), (⟨"DrawnMapsModel", "goesOn", "([I)Z"⟩, 59), (⟨"DrawnMapsModel", "kindOf", "(I)I"⟩, 59), (⟨"DrawnMapsModel", "stays", "()I"⟩, 59), (⟨"DrawnMapsModel", "typed4", "(I)V"⟩, 59), (⟨"DrawnMapsModel", "isCode", "(I)Z"⟩, 59), (⟨"DrawnMapsModel", "isDart", "(I)Z"⟩, 59), (⟨"DrawnMapsModel", "codeOf", "(I)I"⟩, 59), (⟨"DrawnMapsModel", "facesOf", "(II)I"⟩, 59), (⟨"DrawnMapsModel", "then", "(II)I"⟩, 59), (⟨"DrawnMapsModel", "back", "(I)I"⟩, 59), (⟨"DrawnMapsModel", "puts", "(II)V"⟩, 59)]
theorem lw_r3 : ∀ q ∈ lw_privs_3, lw_okq q := List.forall_mem_cons.mpr ⟨lw_p32, List.forall_mem_cons.mpr ⟨lw_p33, List.forall_mem_cons.mpr ⟨lw_p34, List.forall_mem_cons.mpr ⟨lw_p35, List.forall_mem_cons.mpr ⟨lw_p36, List.forall_mem_cons.mpr ⟨lw_p37, List.forall_mem_cons.mpr ⟨lw_p38, List.forall_mem_cons.mpr ⟨lw_p39, List.forall_mem_cons.mpr ⟨lw_p40, List.forall_mem_cons.mpr ⟨lw_p41, List.forall_mem_cons.mpr ⟨lw_p42, List.forall_mem_cons.mpr ⟨lw_p43, List.forall_mem_cons.mpr ⟨lw_p44, List.forall_mem_cons.mpr ⟨lw_p45, List.forall_mem_cons.mpr ⟨lw_p46, List.forall_mem_cons.mpr ⟨lw_p47, fun _ h => absurd h List.not_mem_nil⟩⟩⟩⟩⟩⟩⟩⟩⟩⟩⟩⟩⟩⟩⟩⟩
theorem lw_p48 : lw_okq (⟨"DrawnMapsModel", "hasText", "(I)Z"⟩, 59) := ⟨⟨by decide +kernel, by decide +kernel⟩, List.mem_of_getElem? (i := 946) (by decide +kernel), List.mem_of_getElem? (i := 1226) (by decide +kernel), List.mem_of_getElem? (i := 1227) (by decide +kernel)⟩
theorem lw_p49 : lw_okq (⟨"DrawnMapsModel", "see", "()I"⟩, 59) := ⟨⟨by decide +kernel, by decide +kernel⟩, List.mem_of_getElem? (i := 946) (by decide +kernel), List.mem_of_getElem? (i := 1230) (by decide +kernel), List.mem_of_getElem? (i := 1231) (by decide +kernel)⟩
theorem lw_p50 : lw_okq (⟨"DrawnMapsModel", "wrong", "(I)V"⟩, 59) := ⟨⟨by decide +kernel, by decide +kernel⟩, List.mem_of_getElem? (i := 946) (by decide +kernel), List.mem_of_getElem? (i := 1234) (by decide +kernel), List.mem_of_getElem? (i := 1235) (by decide +kernel)⟩
theorem lw_p51 : lw_okq (⟨"DrawnMapsModel", "readsCycle", "(I)I"⟩, 59) := ⟨⟨by decide +kernel, by decide +kernel⟩, List.mem_of_getElem? (i := 946) (by decide +kernel), List.mem_of_getElem? (i := 1238) (by decide +kernel), List.mem_of_getElem? (i := 1239) (by decide +kernel)⟩
theorem lw_p52 : lw_okq (⟨"DrawnMapsModel", "drawnOne", "()I"⟩, 59) := ⟨⟨by decide +kernel, by decide +kernel⟩, List.mem_of_getElem? (i := 946) (by decide +kernel), List.mem_of_getElem? (i := 1247) (by decide +kernel), List.mem_of_getElem? (i := 1248) (by decide +kernel)⟩
theorem lw_p53 : lw_okq (⟨"DrawnMapsModel", "draw", "(I)I"⟩, 59) := ⟨⟨by decide +kernel, by decide +kernel⟩, List.mem_of_getElem? (i := 946) (by decide +kernel), List.mem_of_getElem? (i := 1251) (by decide +kernel), List.mem_of_getElem? (i := 1252) (by decide +kernel)⟩
theorem lw_p54 : lw_okq (⟨"DrawnMapsModel", "operates", "(III)V"⟩, 59) := ⟨⟨by decide +kernel, by decide +kernel⟩, List.mem_of_getElem? (i := 946) (by decide +kernel), List.mem_of_getElem? (i := 1260) (by decide +kernel), List.mem_of_getElem? (i := 1261) (by decide +kernel)⟩
theorem lw_p55 : lw_okq (⟨"DrawnMapsModel", "laysCanon", "(II)V"⟩, 59) := ⟨⟨by decide +kernel, by decide +kernel⟩, List.mem_of_getElem? (i := 946) (by decide +kernel), List.mem_of_getElem? (i := 1268) (by decide +kernel), List.mem_of_getElem? (i := 1269) (by decide +kernel)⟩
theorem lw_p56 : lw_okq (⟨"DrawnMapsModel", "relabelled", "(II)I"⟩, 59) := ⟨⟨by decide +kernel, by decide +kernel⟩, List.mem_of_getElem? (i := 946) (by decide +kernel), List.mem_of_getElem? (i := 1272) (by decide +kernel), List.mem_of_getElem? (i := 1273) (by decide +kernel)⟩
theorem lw_p57 : lw_okq (⟨"DrawnMapsModel", "labelOf", "(II)I"⟩, 59) := ⟨⟨by decide +kernel, by decide +kernel⟩, List.mem_of_getElem? (i := 946) (by decide +kernel), List.mem_of_getElem? (i := 1287) (by decide +kernel), List.mem_of_getElem? (i := 1288) (by decide +kernel)⟩
theorem lw_p58 : lw_okq (⟨"DrawnMapsModel", "cyclesOf", "(I)I"⟩, 59) := ⟨⟨by decide +kernel, by decide +kernel⟩, List.mem_of_getElem? (i := 946) (by decide +kernel), List.mem_of_getElem? (i := 1307) (by decide +kernel), List.mem_of_getElem? (i := 1308) (by decide +kernel)⟩
theorem lw_p59 : lw_okq (⟨"DrawnMapsModel", "orderOf", "(I)I"⟩, 59) := ⟨⟨by decide +kernel, by decide +kernel⟩, List.mem_of_getElem? (i := 946) (by decide +kernel), List.mem_of_getElem? (i := 1311) (by decide +kernel), List.mem_of_getElem? (i := 1312) (by decide +kernel)⟩
theorem lw_p60 : lw_okq (⟨"DrawnMapsModel", "bringsTo", "(II)I"⟩, 59) := ⟨⟨by decide +kernel, by decide +kernel⟩, List.mem_of_getElem? (i := 946) (by decide +kernel), List.mem_of_getElem? (i := 1315) (by decide +kernel), List.mem_of_getElem? (i := 1316) (by decide +kernel)⟩
theorem lw_p61 : lw_okq (⟨"DrawnMapsModel", "partOf", "(III)I"⟩, 59) := ⟨⟨by decide +kernel, by decide +kernel⟩, List.mem_of_getElem? (i := 946) (by decide +kernel), List.mem_of_getElem? (i := 1331) (by decide +kernel), List.mem_of_getElem? (i := 1332) (by decide +kernel)⟩
theorem lw_p62 : lw_okq (⟨"DrawnMapsModel", "laysGroup", "(II)I"⟩, 59) := ⟨⟨by decide +kernel, by decide +kernel⟩, List.mem_of_getElem? (i := 946) (by decide +kernel), List.mem_of_getElem? (i := 1342) (by decide +kernel), List.mem_of_getElem? (i := 1343) (by decide +kernel)⟩
theorem lw_p63 : lw_okq (⟨"DrawnMapsModel", "meets", "(II)V"⟩, 59) := ⟨⟨by decide +kernel, by decide +kernel⟩, List.mem_of_getElem? (i := 946) (by decide +kernel), List.mem_of_getElem? (i := 1346) (by decide +kernel), List.mem_of_getElem? (i := 1347) (by decide +kernel)⟩
def lw_privs_4 : List (MethodName × Nat) := [(⟨"DrawnMapsModel", "hasText", "(I)Z"⟩, 59), (⟨"DrawnMapsModel", "see", "()I"⟩, 59), (⟨"DrawnMapsModel", "wrong", "(I)V"⟩, 59), (⟨"DrawnMapsModel", "readsCycle", "(I)I"⟩, 59), (⟨"DrawnMapsModel", "drawnOne", "()I"⟩, 59), (⟨"DrawnMapsModel", "draw", "(I)I"⟩, 59), (⟨"DrawnMapsModel", "operates", "(III)V"⟩, 59), (⟨"DrawnMapsModel", "laysCanon", "(II)V"⟩, 59), (⟨"DrawnMapsModel", "relabelled", "(II)I"⟩, 59), (⟨"DrawnMapsModel", "labelOf", "(II)I"⟩, 59), (⟨"DrawnMapsModel", "cyclesOf", "(I)I"⟩, 59), (⟨"DrawnMapsModel", "orderOf", "(I)I"⟩, 59), (⟨"DrawnMapsModel", "bringsTo", "(II)I"⟩, 59), (⟨"DrawnMapsModel", "partOf", "(III)I"⟩, 59), (⟨"DrawnMapsModel", "laysGroup", "(II)I"⟩, 59), (⟨"DrawnMapsModel", "meets", "(II)V"⟩, 59)]
theorem lw_r4 : ∀ q ∈ lw_privs_4, lw_okq q := List.forall_mem_cons.mpr ⟨lw_p48, List.forall_mem_cons.mpr ⟨lw_p49, List.forall_mem_cons.mpr ⟨lw_p50, List.forall_mem_cons.mpr ⟨lw_p51, List.forall_mem_cons.mpr ⟨lw_p52, List.forall_mem_cons.mpr ⟨lw_p53, List.forall_mem_cons.mpr ⟨lw_p54, List.forall_mem_cons.mpr ⟨lw_p55, List.forall_mem_cons.mpr ⟨lw_p56, List.forall_mem_cons.mpr ⟨lw_p57, List.forall_mem_cons.mpr ⟨lw_p58, List.forall_mem_cons.mpr ⟨lw_p59, List.forall_mem_cons.mpr ⟨lw_p60, List.forall_mem_cons.mpr ⟨lw_p61, List.forall_mem_cons.mpr ⟨lw_p62, List.forall_mem_cons.mpr ⟨lw_p63, fun _ h => absurd h List.not_mem_nil⟩⟩⟩⟩⟩⟩⟩⟩⟩⟩⟩⟩⟩⟩⟩⟩
theorem lw_p64 : lw_okq (⟨"DrawnMapsModel", "placeOf", "(I)I"⟩, 59) := ⟨⟨by decide +kernel, by decide +kernel⟩, List.mem_of_getElem? (i := 946) (by decide +kernel), List.mem_of_getElem? (i := 1350) (by decide +kernel), List.mem_of_getElem? (i := 1351) (by decide +kernel)⟩
theorem lw_p65 : lw_okq (⟨"DrawnMapsModel", "lengthOf", "(I)I"⟩, 59) := ⟨⟨by decide +kernel, by decide +kernel⟩, List.mem_of_getElem? (i := 946) (by decide +kernel), List.mem_of_getElem? (i := 1362) (by decide +kernel), List.mem_of_getElem? (i := 1363) (by decide +kernel)⟩
theorem lw_p66 : lw_okq (⟨"DrawnMapsModel", "systems", "(I)I"⟩, 59) := ⟨⟨by decide +kernel, by decide +kernel⟩, List.mem_of_getElem? (i := 946) (by decide +kernel), List.mem_of_getElem? (i := 1370) (by decide +kernel), List.mem_of_getElem? (i := 1371) (by decide +kernel)⟩
theorem lw_p67 : lw_okq (⟨"DrawnMapsModel", "isOne", "()Z"⟩, 59) := ⟨⟨by decide +kernel, by decide +kernel⟩, List.mem_of_getElem? (i := 946) (by decide +kernel), List.mem_of_getElem? (i := 1374) (by decide +kernel), List.mem_of_getElem? (i := 1375) (by decide +kernel)⟩
theorem lw_p68 : lw_okq (⟨"DrawnMapsModel", "isConnected", "(II)Z"⟩, 59) := ⟨⟨by decide +kernel, by decide +kernel⟩, List.mem_of_getElem? (i := 946) (by decide +kernel), List.mem_of_getElem? (i := 1378) (by decide +kernel), List.mem_of_getElem? (i := 1379) (by decide +kernel)⟩
theorem lw_p69 : lw_okq (⟨"DrawnMapsModel", "isSystem", "(I)Z"⟩, 59) := ⟨⟨by decide +kernel, by decide +kernel⟩, List.mem_of_getElem? (i := 946) (by decide +kernel), List.mem_of_getElem? (i := 1382) (by decide +kernel), List.mem_of_getElem? (i := 1383) (by decide +kernel)⟩
theorem lw_p70 : lw_okq (⟨"DrawnMapsModel", "image", "(I[I)I"⟩, 59) := ⟨⟨by decide +kernel, by decide +kernel⟩, List.mem_of_getElem? (i := 946) (by decide +kernel), List.mem_of_getElem? (i := 1386) (by decide +kernel), List.mem_of_getElem? (i := 1387) (by decide +kernel)⟩
theorem lw_p71 : lw_okq (⟨"DrawnMapsModel", "fits", "(I)Z"⟩, 59) := ⟨⟨by decide +kernel, by decide +kernel⟩, List.mem_of_getElem? (i := 946) (by decide +kernel), List.mem_of_getElem? (i := 1390) (by decide +kernel), List.mem_of_getElem? (i := 1391) (by decide +kernel)⟩
theorem lw_p72 : lw_okq (⟨"DrawnMapsModel", "quotient", "([I)I"⟩, 59) := ⟨⟨by decide +kernel, by decide +kernel⟩, List.mem_of_getElem? (i := 946) (by decide +kernel), List.mem_of_getElem? (i := 1394) (by decide +kernel), List.mem_of_getElem? (i := 1395) (by decide +kernel)⟩
theorem lw_p73 : lw_okq (⟨"DrawnMapsModel", "numberOf", "(I)I"⟩, 59) := ⟨⟨by decide +kernel, by decide +kernel⟩, List.mem_of_getElem? (i := 946) (by decide +kernel), List.mem_of_getElem? (i := 1398) (by decide +kernel), List.mem_of_getElem? (i := 1399) (by decide +kernel)⟩
theorem lw_p74 : lw_okq (⟨"DrawnMapsModel", "valueAt", "(II)I"⟩, 59) := ⟨⟨by decide +kernel, by decide +kernel⟩, List.mem_of_getElem? (i := 946) (by decide +kernel), List.mem_of_getElem? (i := 1418) (by decide +kernel), List.mem_of_getElem? (i := 1419) (by decide +kernel)⟩
theorem lw_p75 : lw_okq (⟨"DrawnMapsModel", "figureOf", "(I)I"⟩, 59) := ⟨⟨by decide +kernel, by decide +kernel⟩, List.mem_of_getElem? (i := 946) (by decide +kernel), List.mem_of_getElem? (i := 1422) (by decide +kernel), List.mem_of_getElem? (i := 1423) (by decide +kernel)⟩
theorem lw_p76 : lw_okq (⟨"DrawnMapsModel", "laysDigits", "(I)V"⟩, 59) := ⟨⟨by decide +kernel, by decide +kernel⟩, List.mem_of_getElem? (i := 946) (by decide +kernel), List.mem_of_getElem? (i := 1426) (by decide +kernel), List.mem_of_getElem? (i := 1427) (by decide +kernel)⟩
theorem lw_p77 : lw_okq (⟨"DrawnMapsModel", "adds", "(II)V"⟩, 59) := ⟨⟨by decide +kernel, by decide +kernel⟩, List.mem_of_getElem? (i := 946) (by decide +kernel), List.mem_of_getElem? (i := 1430) (by decide +kernel), List.mem_of_getElem? (i := 1431) (by decide +kernel)⟩
theorem lw_p78 : lw_okq (⟨"DrawnMapsModel", "areKinds", "(III)Z"⟩, 59) := ⟨⟨by decide +kernel, by decide +kernel⟩, List.mem_of_getElem? (i := 946) (by decide +kernel), List.mem_of_getElem? (i := 1438) (by decide +kernel), List.mem_of_getElem? (i := 1439) (by decide +kernel)⟩
theorem lw_p79 : lw_okq (⟨"DrawnMapsModel", "byCharacters", "(III)J"⟩, 59) := ⟨⟨by decide +kernel, by decide +kernel⟩, List.mem_of_getElem? (i := 946) (by decide +kernel), List.mem_of_getElem? (i := 1443) (by decide +kernel), List.mem_of_getElem? (i := 1444) (by decide +kernel)⟩
def lw_privs_5 : List (MethodName × Nat) := [(⟨"DrawnMapsModel", "placeOf", "(I)I"⟩, 59), (⟨"DrawnMapsModel", "lengthOf", "(I)I"⟩, 59), (⟨"DrawnMapsModel", "systems", "(I)I"⟩, 59), (⟨"DrawnMapsModel", "isOne", "()Z"⟩, 59), (⟨"DrawnMapsModel", "isConnected", "(II)Z"⟩, 59), (⟨"DrawnMapsModel", "isSystem", "(I)Z"⟩, 59), (⟨"DrawnMapsModel", "image", "(I[I)I"⟩, 59), (⟨"DrawnMapsModel", "fits", "(I)Z"⟩, 59), (⟨"DrawnMapsModel", "quotient", "([I)I"⟩, 59), (⟨"DrawnMapsModel", "numberOf", "(I)I"⟩, 59), (⟨"DrawnMapsModel", "valueAt", "(II)I"⟩, 59), (⟨"DrawnMapsModel", "figureOf", "(I)I"⟩, 59), (⟨"DrawnMapsModel", "laysDigits", "(I)V"⟩, 59), (⟨"DrawnMapsModel", "adds", "(II)V"⟩, 59), (⟨"DrawnMapsModel", "areKinds", "(III)Z"⟩, 59), (⟨"DrawnMapsModel", "byCharacters", "(III)J"⟩, 59)]
theorem lw_r5 : ∀ q ∈ lw_privs_5, lw_okq q := List.forall_mem_cons.mpr ⟨lw_p64, List.forall_mem_cons.mpr ⟨lw_p65, List.forall_mem_cons.mpr ⟨lw_p66, List.forall_mem_cons.mpr ⟨lw_p67, List.forall_mem_cons.mpr ⟨lw_p68, List.forall_mem_cons.mpr ⟨lw_p69, List.forall_mem_cons.mpr ⟨lw_p70, List.forall_mem_cons.mpr ⟨lw_p71, List.forall_mem_cons.mpr ⟨lw_p72, List.forall_mem_cons.mpr ⟨lw_p73, List.forall_mem_cons.mpr ⟨lw_p74, List.forall_mem_cons.mpr ⟨lw_p75, List.forall_mem_cons.mpr ⟨lw_p76, List.forall_mem_cons.mpr ⟨lw_p77, List.forall_mem_cons.mpr ⟨lw_p78, List.forall_mem_cons.mpr ⟨lw_p79, fun _ h => absurd h List.not_mem_nil⟩⟩⟩⟩⟩⟩⟩⟩⟩⟩⟩⟩⟩⟩⟩⟩
theorem lw_p80 : lw_okq (⟨"DrawnMapsModel", "bySearch", "(IIIZ)J"⟩, 59) := ⟨⟨by decide +kernel, by decide +kernel⟩, List.mem_of_getElem? (i := 946) (by decide +kernel), List.mem_of_getElem? (i := 1447) (by decide +kernel), List.mem_of_getElem? (i := 1448) (by decide +kernel)⟩
theorem lw_p81 : lw_okq (⟨"DrawnMapsModel", "kindOfCode", "(I)I"⟩, 59) := ⟨⟨by decide +kernel, by decide +kernel⟩, List.mem_of_getElem? (i := 946) (by decide +kernel), List.mem_of_getElem? (i := 1451) (by decide +kernel), List.mem_of_getElem? (i := 1452) (by decide +kernel)⟩
theorem lw_p82 : lw_okq (⟨"DrawnMapsModel", "laysClasses", "(III)V"⟩, 59) := ⟨⟨by decide +kernel, by decide +kernel⟩, List.mem_of_getElem? (i := 946) (by decide +kernel), List.mem_of_getElem? (i := 1459) (by decide +kernel), List.mem_of_getElem? (i := 1460) (by decide +kernel)⟩
theorem lw_p83 : lw_okq (⟨"DrawnMapsModel", "symmetric", "(II)I"⟩, 59) := ⟨⟨by decide +kernel, by decide +kernel⟩, List.mem_of_getElem? (i := 946) (by decide +kernel), List.mem_of_getElem? (i := 1463) (by decide +kernel), List.mem_of_getElem? (i := 1464) (by decide +kernel)⟩
theorem lw_p84 : lw_okq (⟨"DrawnMapsModel", "genusOf", "(II)I"⟩, 59) := ⟨⟨by decide +kernel, by decide +kernel⟩, List.mem_of_getElem? (i := 946) (by decide +kernel), List.mem_of_getElem? (i := 1479) (by decide +kernel), List.mem_of_getElem? (i := 1480) (by decide +kernel)⟩
theorem lw_p85 : lw_okq (⟨"DrawnMapsModel", "joins", "(II)V"⟩, 59) := ⟨⟨by decide +kernel, by decide +kernel⟩, List.mem_of_getElem? (i := 946) (by decide +kernel), List.mem_of_getElem? (i := 1491) (by decide +kernel), List.mem_of_getElem? (i := 1492) (by decide +kernel)⟩
theorem lw_p86 : lw_okq (⟨"DrawnMapsModel", "parts", "()I"⟩, 59) := ⟨⟨by decide +kernel, by decide +kernel⟩, List.mem_of_getElem? (i := 946) (by decide +kernel), List.mem_of_getElem? (i := 1499) (by decide +kernel), List.mem_of_getElem? (i := 1500) (by decide +kernel)⟩
theorem lw_p87 : lw_okq (⟨"DrawnMapsModel", "autsOf", "(II)I"⟩, 59) := ⟨⟨by decide +kernel, by decide +kernel⟩, List.mem_of_getElem? (i := 946) (by decide +kernel), List.mem_of_getElem? (i := 1503) (by decide +kernel), List.mem_of_getElem? (i := 1504) (by decide +kernel)⟩
theorem lw_p88 : lw_okq (⟨"DrawnMapsModel", "siblings", "()I"⟩, 59) := ⟨⟨by decide +kernel, by decide +kernel⟩, List.mem_of_getElem? (i := 946) (by decide +kernel), List.mem_of_getElem? (i := 1507) (by decide +kernel), List.mem_of_getElem? (i := 1508) (by decide +kernel)⟩
theorem lw_p89 : lw_okq (⟨"DrawnMapsModel", "readsWord", "(I)I"⟩, 59) := ⟨⟨by decide +kernel, by decide +kernel⟩, List.mem_of_getElem? (i := 946) (by decide +kernel), List.mem_of_getElem? (i := 1515) (by decide +kernel), List.mem_of_getElem? (i := 1516) (by decide +kernel)⟩
theorem lw_p90 : lw_okq (⟨"DrawnMapsModel", "letterOf", "(I)I"⟩, 59) := ⟨⟨by decide +kernel, by decide +kernel⟩, List.mem_of_getElem? (i := 946) (by decide +kernel), List.mem_of_getElem? (i := 1519) (by decide +kernel), List.mem_of_getElem? (i := 1520) (by decide +kernel)⟩
theorem lw_p91 : lw_okq (⟨"DrawnMapsModel", "powerOf", "(II)I"⟩, 59) := ⟨⟨by decide +kernel, by decide +kernel⟩, List.mem_of_getElem? (i := 946) (by decide +kernel), List.mem_of_getElem? (i := 1531) (by decide +kernel), List.mem_of_getElem? (i := 1532) (by decide +kernel)⟩
theorem lw_p92 : lw_okq (⟨"DrawnMapsModel", "steps", "(III)V"⟩, 59) := ⟨⟨by decide +kernel, by decide +kernel⟩, List.mem_of_getElem? (i := 946) (by decide +kernel), List.mem_of_getElem? (i := 1547) (by decide +kernel), List.mem_of_getElem? (i := 1548) (by decide +kernel)⟩
theorem lw_p93 : lw_okq (⟨"DrawnMapsModel", "cycleSet", "(II)I"⟩, 59) := ⟨⟨by decide +kernel, by decide +kernel⟩, List.mem_of_getElem? (i := 946) (by decide +kernel), List.mem_of_getElem? (i := 1555) (by decide +kernel), List.mem_of_getElem? (i := 1556) (by decide +kernel)⟩
def lw_privs_6 : List (MethodName × Nat) := [(⟨"DrawnMapsModel", "bySearch", "(IIIZ)J"⟩, 59), (⟨"DrawnMapsModel", "kindOfCode", "(I)I"⟩, 59), (⟨"DrawnMapsModel", "laysClasses", "(III)V"⟩, 59), (⟨"DrawnMapsModel", "symmetric", "(II)I"⟩, 59), (⟨"DrawnMapsModel", "genusOf", "(II)I"⟩, 59), (⟨"DrawnMapsModel", "joins", "(II)V"⟩, 59), (⟨"DrawnMapsModel", "parts", "()I"⟩, 59), (⟨"DrawnMapsModel", "autsOf", "(II)I"⟩, 59), (⟨"DrawnMapsModel", "siblings", "()I"⟩, 59), (⟨"DrawnMapsModel", "readsWord", "(I)I"⟩, 59), (⟨"DrawnMapsModel", "letterOf", "(I)I"⟩, 59), (⟨"DrawnMapsModel", "powerOf", "(II)I"⟩, 59), (⟨"DrawnMapsModel", "steps", "(III)V"⟩, 59), (⟨"DrawnMapsModel", "cycleSet", "(II)I"⟩, 59)]
theorem lw_r6 : ∀ q ∈ lw_privs_6, lw_okq q := List.forall_mem_cons.mpr ⟨lw_p80, List.forall_mem_cons.mpr ⟨lw_p81, List.forall_mem_cons.mpr ⟨lw_p82, List.forall_mem_cons.mpr ⟨lw_p83, List.forall_mem_cons.mpr ⟨lw_p84, List.forall_mem_cons.mpr ⟨lw_p85, List.forall_mem_cons.mpr ⟨lw_p86, List.forall_mem_cons.mpr ⟨lw_p87, List.forall_mem_cons.mpr ⟨lw_p88, List.forall_mem_cons.mpr ⟨lw_p89, List.forall_mem_cons.mpr ⟨lw_p90, List.forall_mem_cons.mpr ⟨lw_p91, List.forall_mem_cons.mpr ⟨lw_p92, List.forall_mem_cons.mpr ⟨lw_p93, fun _ h => absurd h List.not_mem_nil⟩⟩⟩⟩⟩⟩⟩⟩⟩⟩⟩⟩⟩⟩
def lw_privs : List (MethodName × Nat) := lw_privs_1 ++ (lw_privs_2 ++ (lw_privs_3 ++ (lw_privs_4 ++ (lw_privs_5 ++ (lw_privs_6)))))
def lw_tbl : List Cond := k2_sels lw_privs ++ tables_1
theorem lw_privs_ok : ∀ q ∈ lw_privs, lw_okq q := by
  show ∀ q ∈ lw_privs_1 ++ (lw_privs_2 ++ (lw_privs_3 ++ (lw_privs_4 ++ (lw_privs_5 ++ (lw_privs_6))))), lw_okq q
  exact List.forall_mem_append.mpr ⟨lw_r1, List.forall_mem_append.mpr ⟨lw_r2, List.forall_mem_append.mpr ⟨lw_r3, List.forall_mem_append.mpr ⟨lw_r4, List.forall_mem_append.mpr ⟨lw_r5, lw_r6⟩⟩⟩⟩⟩
def RX0 : String := "DrawnMaps$Blocks"
def TX0 : u_T := fun k => match k with
  | 0 => ("DrawnMaps$Blocks", "sets", "[I", true)
  | _ => ("DrawnMaps$Blocks", "many", "I", false)
def tyX0 : Nat → FieldType := fun k => match k with
  | 0 => .array .int
  | _ => .int
abbrev wsX00 : List Cond := u_ws RX0 TX0 2
theorem nmX0 : ∀ a, a < 2 → ∀ b, b < 2 → a ≠ b → (TX0 a).2.1 ≠ (TX0 b).2.1 := by decide +kernel
theorem tyX0_ok : ∀ k, k < 2 → parseFieldDescriptor (TX0 k).2.2.1 = some (tyX0 k) := by decide +kernel
abbrev cX0_init : ByteArray := prog_2_method_1_code
def yX0_init : MethodName := ⟨RX0, "<init>", "()V"⟩
abbrev cX0_systems : ByteArray := prog_2_method_2_code
def yX0_systems : MethodName := ⟨RX0, "systems", "(III)I"⟩
abbrev cX0_find : ByteArray := prog_2_method_3_code
def yX0_find : MethodName := ⟨RX0, "find", "(IIII)Z"⟩
abbrev cX0_lay : ByteArray := prog_2_method_4_code
def yX0_lay : MethodName := ⟨RX0, "lay", "(III)Z"⟩
abbrev cX0_admit : ByteArray := prog_2_method_5_code
def yX0_admit : MethodName := ⟨RX0, nmB.name, "(I)Z"⟩
abbrev cX0_moved : ByteArray := prog_2_method_6_code
def yX0_moved : MethodName := ⟨RX0, "moved", "(II)I"⟩
abbrev cX0_sort : ByteArray := prog_2_method_7_code
def yX0_sort : MethodName := ⟨RX0, "sort", "()V"⟩
abbrev cX0_withDartOne : ByteArray := prog_2_method_8_code
def yX0_withDartOne : MethodName := ⟨RX0, "withDartOne", "()I"⟩
abbrev cX0_smaller : ByteArray := prog_2_method_9_code
def yX0_smaller : MethodName := ⟨RX0, "smaller", "(I)I"⟩
def RX1 : String := "DrawnMaps$Census"
def TX1 : u_T := fun k => match k with
  | 0 => ("DrawnMaps$Census", "every", "[I", true)
  | 1 => ("DrawnMaps$Census", "kindOf", "[I", true)
  | 2 => ("DrawnMaps$Census", "n", "I", false)
  | 3 => ("DrawnMaps$Census", "total", "I", false)
  | 4 => ("DrawnMaps$Census", "all", "[I", true)
  | 5 => ("DrawnMaps$Census", "connected", "[I", true)
  | 6 => ("DrawnMaps$Census", "tallied1", "I", false)
  | 7 => ("DrawnMaps$Census", "tallied2", "I", false)
  | 8 => ("DrawnMaps$Census", "seen", "[Z", true)
  | 9 => ("DrawnMaps$Census", "whites", "[I", true)
  | 10 => ("DrawnMaps$Census", "leaving", "[I", true)
  | 11 => ("DrawnMaps$Census", "listed1", "I", false)
  | 12 => ("DrawnMaps$Census", "listed2", "I", false)
  | 13 => ("DrawnMaps$Census", "listed3", "I", false)
  | 14 => ("DrawnMaps$Census", "listed", "I", false)
  | _ => ("DrawnMaps$Census", "black", "I", false)
def tyX1 : Nat → FieldType := fun k => match k with
  | 0 => .array .int
  | 1 => .array .int
  | 2 => .int
  | 3 => .int
  | 4 => .array .int
  | 5 => .array .int
  | 6 => .int
  | 7 => .int
  | 8 => .array .boolean
  | 9 => .array .int
  | 10 => .array .int
  | 11 => .int
  | 12 => .int
  | 13 => .int
  | 14 => .int
  | _ => .int
abbrev wsX10 : List Cond := u_ws RX1 TX1 16
theorem nmX1 : ∀ a, a < 16 → ∀ b, b < 16 → a ≠ b → (TX1 a).2.1 ≠ (TX1 b).2.1 := by decide +kernel
theorem tyX1_ok : ∀ k, k < 16 → parseFieldDescriptor (TX1 k).2.2.1 = some (tyX1 k) := by decide +kernel
abbrev cX1_init : ByteArray := prog_3_method_1_code
def yX1_init : MethodName := ⟨RX1, "<init>", "()V"⟩
abbrev cX1_prepare : ByteArray := prog_3_method_2_code
def yX1_prepare : MethodName := ⟨RX1, "prepare", "(I)V"⟩
abbrev cX1_permutation : ByteArray := prog_3_method_3_code
def yX1_permutation : MethodName := ⟨RX1, "permutation", "(I)I"⟩
abbrev cX1_tally : ByteArray := prog_3_method_4_code
def yX1_tally : MethodName := ⟨RX1, "tally", "(III)V"⟩
abbrev cX1_tell : ByteArray := prog_3_method_5_code
def yX1_tell : MethodName := ⟨RX1, "tell", "(II)V"⟩
abbrev cX1_found : ByteArray := prog_3_method_6_code
def yX1_found : MethodName := ⟨RX1, "found", "(I)I"⟩
abbrev cX1_foundConnected : ByteArray := prog_3_method_7_code
def yX1_foundConnected : MethodName := ⟨RX1, "foundConnected", "(I)I"⟩
abbrev cX1_list : ByteArray := prog_3_method_8_code
def yX1_list : MethodName := ⟨RX1, "list", "(LDrawnMaps$Relabels;IIII)V"⟩
abbrev cX1_belongs : ByteArray := prog_3_method_9_code
def yX1_belongs : MethodName := ⟨RX1, "belongs", "(II)Z"⟩
abbrev cX1_open : ByteArray := prog_3_method_10_code
def yX1_open : MethodName := ⟨RX1, "open", "(LDrawnMaps$Relabels;I)V"⟩
abbrev cX1_white : ByteArray := prog_3_method_11_code
def yX1_white : MethodName := ⟨RX1, "white", "(I)I"⟩
abbrev cX1_auts : ByteArray := prog_3_method_12_code
def yX1_auts : MethodName := ⟨RX1, "auts", "(I)I"⟩
def RX2 : String := "DrawnMaps$Chain"
def TX2 : u_T := fun k => match k with
  | 0 => ("DrawnMaps$Chain", "undoing", "[I", true)
  | 1 => ("DrawnMaps$Chain", "steps", "[I", true)
  | _ => ("DrawnMaps$Chain", "many", "I", false)
def tyX2 : Nat → FieldType := fun k => match k with
  | 0 => .array .int
  | 1 => .array .int
  | _ => .int
abbrev wsX20 : List Cond := u_ws RX2 TX2 3
theorem nmX2 : ∀ a, a < 3 → ∀ b, b < 3 → a ≠ b → (TX2 a).2.1 ≠ (TX2 b).2.1 := by decide +kernel
theorem tyX2_ok : ∀ k, k < 3 → parseFieldDescriptor (TX2 k).2.2.1 = some (tyX2 k) := by decide +kernel
abbrev cX2_init : ByteArray := prog_4_method_1_code
def yX2_init : MethodName := ⟨RX2, "<init>", "()V"⟩
abbrev cX2_order : ByteArray := prog_4_method_2_code
def yX2_order : MethodName := ⟨RX2, "order", "(III)I"⟩
abbrev cX2_most : ByteArray := prog_4_method_3_code
def yX2_most : MethodName := ⟨RX2, "most", "(III)I"⟩
abbrev cX2_sift : ByteArray := prog_4_method_4_code
def yX2_sift : MethodName := ⟨RX2, "sift", "(II)V"⟩
abbrev cX2_found : ByteArray := prog_4_method_5_code
def yX2_found : MethodName := ⟨RX2, "found", "(I)I"⟩
def RX3 : String := "DrawnMaps$Family"
def TX3 : u_T := fun k => match k with
  | 0 => ("DrawnMaps$Family", "blacks", "[I", true)
  | 1 => ("DrawnMaps$Family", "whites", "[I", true)
  | _ => ("DrawnMaps$Family", "many", "I", false)
def tyX3 : Nat → FieldType := fun k => match k with
  | 0 => .array .int
  | 1 => .array .int
  | _ => .int
abbrev wsX30 : List Cond := u_ws RX3 TX3 3
theorem nmX3 : ∀ a, a < 3 → ∀ b, b < 3 → a ≠ b → (TX3 a).2.1 ≠ (TX3 b).2.1 := by decide +kernel
theorem tyX3_ok : ∀ k, k < 3 → parseFieldDescriptor (TX3 k).2.2.1 = some (tyX3 k) := by decide +kernel
abbrev cX3_init : ByteArray := prog_5_method_1_code
def yX3_init : MethodName := ⟨RX3, "<init>", "()V"⟩
abbrev cX3_gather : ByteArray := prog_5_method_2_code
def yX3_gather : MethodName := ⟨RX3, "gather", "(LDrawnMaps$Relabels;III)V"⟩
abbrev cX3_add : ByteArray := prog_5_method_3_code
def yX3_add : MethodName := ⟨RX3, "add", "(II)V"⟩
abbrev cX3_sort : ByteArray := prog_5_method_4_code
def yX3_sort : MethodName := ⟨RX3, "sort", "()V"⟩
abbrev cX3_behind : ByteArray := prog_5_method_5_code
def yX3_behind : MethodName := ⟨RX3, "behind", "(II)Z"⟩
abbrev cX3_black : ByteArray := prog_5_method_6_code
def yX3_black : MethodName := ⟨RX3, "black", "(I)I"⟩
abbrev cX3_white : ByteArray := prog_5_method_7_code
def yX3_white : MethodName := ⟨RX3, "white", "(I)I"⟩
def RX4 : String := "DrawnMaps$Group"
def TX4 : u_T := fun k => match k with
  | 0 => ("DrawnMaps$Group", "members", "[I", true)
  | 1 => ("DrawnMaps$Group", "turns", "[I", true)
  | 2 => ("DrawnMaps$Group", "many", "I", false)
  | 3 => ("DrawnMaps$Group", "n", "I", false)
  | 4 => ("DrawnMaps$Group", "s", "I", false)
  | _ => ("DrawnMaps$Group", "a", "I", false)
def tyX4 : Nat → FieldType := fun k => match k with
  | 0 => .array .int
  | 1 => .array .int
  | 2 => .int
  | 3 => .int
  | 4 => .int
  | _ => .int
abbrev wsX40 : List Cond := u_ws RX4 TX4 6
theorem nmX4 : ∀ a, a < 6 → ∀ b, b < 6 → a ≠ b → (TX4 a).2.1 ≠ (TX4 b).2.1 := by decide +kernel
theorem tyX4_ok : ∀ k, k < 6 → parseFieldDescriptor (TX4 k).2.2.1 = some (tyX4 k) := by decide +kernel
abbrev cX4_init : ByteArray := prog_6_method_1_code
def yX4_init : MethodName := ⟨RX4, "<init>", "()V"⟩
abbrev cX4_fill : ByteArray := prog_6_method_2_code
def yX4_fill : MethodName := ⟨RX4, "fill", "(III)V"⟩
abbrev cX4_add : ByteArray := prog_6_method_3_code
def yX4_add : MethodName := ⟨RX4, "add", "(II)V"⟩
abbrev cX4_turnsTo : ByteArray := prog_6_method_4_code
def yX4_turnsTo : MethodName := ⟨RX4, "turnsTo", "(I)I"⟩
abbrev cX4_ofKind : ByteArray := prog_6_method_5_code
def yX4_ofKind : MethodName := ⟨RX4, "ofKind", "(I)I"⟩
abbrev cX4_ofOrder : ByteArray := prog_6_method_6_code
def yX4_ofOrder : MethodName := ⟨RX4, "ofOrder", "(I)I"⟩
abbrev cX4_centre : ByteArray := prog_6_method_7_code
def yX4_centre : MethodName := ⟨RX4, "centre", "()I"⟩
def RX5 : String := "DrawnMaps$Kind"
def TX5 : u_T := fun k => match k with
  | _ => ("", "", "", false)
def tyX5 : Nat → FieldType := fun k => match k with
  | _ => .int
abbrev wsX50 : List Cond := u_ws RX5 TX5 0
theorem nmX5 : ∀ a, a < 0 → ∀ b, b < 0 → a ≠ b → (TX5 a).2.1 ≠ (TX5 b).2.1 := by decide +kernel
theorem tyX5_ok : ∀ k, k < 0 → parseFieldDescriptor (TX5 k).2.2.1 = some (tyX5 k) := by decide +kernel
abbrev cX5_many : ByteArray := prog_7_method_2_code
def yX5_many : MethodName := ⟨RX5, "many", "(I)I"⟩
abbrev cX5_nth : ByteArray := prog_7_method_3_code
def yX5_nth : MethodName := ⟨RX5, "nth", "(II)I"⟩
abbrev cX5_index : ByteArray := prog_7_method_4_code
def yX5_index : MethodName := ⟨RX5, "index", "(II)I"⟩
abbrev cX5_factorial : ByteArray := prog_7_method_5_code
def yX5_factorial : MethodName := ⟨RX5, "factorial", "(I)I"⟩
abbrev cX5_parts : ByteArray := prog_7_method_6_code
def yX5_parts : MethodName := ⟨RX5, "parts", "(I)I"⟩
abbrev cX5_members : ByteArray := prog_7_method_7_code
def yX5_members : MethodName := ⟨RX5, "members", "(II)I"⟩
abbrev cX5_value : ByteArray := prog_7_method_8_code
def yX5_value : MethodName := ⟨RX5, "value", "(II)I"⟩
abbrev cX5_strips : ByteArray := prog_7_method_9_code
def yX5_strips : MethodName := ⟨RX5, "strips", "(III)I"⟩
abbrev cX5_byCharacters : ByteArray := prog_7_method_10_code
def yX5_byCharacters : MethodName := ⟨RX5, "byCharacters", "(IIII)J"⟩
def RX6 : String := "DrawnMaps$Perm"
def TX6 : u_T := fun k => match k with
  | _ => ("", "", "", false)
def tyX6 : Nat → FieldType := fun k => match k with
  | _ => .int
abbrev wsX60 : List Cond := u_ws RX6 TX6 0
theorem nmX6 : ∀ a, a < 0 → ∀ b, b < 0 → a ≠ b → (TX6 a).2.1 ≠ (TX6 b).2.1 := by decide +kernel
theorem tyX6_ok : ∀ k, k < 0 → parseFieldDescriptor (TX6 k).2.2.1 = some (tyX6 k) := by decide +kernel
abbrev cX6_shift : ByteArray := prog_8_method_2_code
def yX6_shift : MethodName := ⟨RX6, "shift", "(I)I"⟩
abbrev cX6_at : ByteArray := prog_8_method_3_code
def yX6_at : MethodName := ⟨RX6, "at", "(II)I"⟩
abbrev cX6_bit : ByteArray := prog_8_method_4_code
def yX6_bit : MethodName := ⟨RX6, "bit", "(I)I"⟩
abbrev cX6_darts : ByteArray := prog_8_method_5_code
def yX6_darts : MethodName := ⟨RX6, "darts", "(I)I"⟩
abbrev cX6_lowest : ByteArray := prog_8_method_6_code
def yX6_lowest : MethodName := ⟨RX6, "lowest", "(I)I"⟩
abbrev cX6_tail : ByteArray := prog_8_method_7_code
def yX6_tail : MethodName := ⟨RX6, "tail", "(I)I"⟩
abbrev cX6_then : ByteArray := prog_8_method_8_code
def yX6_then : MethodName := ⟨RX6, "then", "(II)I"⟩
abbrev cX6_back : ByteArray := prog_8_method_9_code
def yX6_back : MethodName := ⟨RX6, "back", "(I)I"⟩
abbrev cX6_faces : ByteArray := prog_8_method_10_code
def yX6_faces : MethodName := ⟨RX6, "faces", "(II)I"⟩
abbrev cX6_relabelled : ByteArray := prog_8_method_11_code
def yX6_relabelled : MethodName := ⟨RX6, "relabelled", "(II)I"⟩
abbrev cX6_swapped : ByteArray := prog_8_method_12_code
def yX6_swapped : MethodName := ⟨RX6, "swapped", "(III)I"⟩
abbrev cX6_swap : ByteArray := prog_8_method_13_code
def yX6_swap : MethodName := ⟨RX6, "swap", "(II)Z"⟩
abbrev cX6_digits : ByteArray := prog_8_method_14_code
def yX6_digits : MethodName := ⟨RX6, "digits", "(II)I"⟩
abbrev cX6_read : ByteArray := prog_8_method_15_code
def yX6_read : MethodName := ⟨RX6, "read", "(II)I"⟩
abbrev cX6_rank : ByteArray := prog_8_method_16_code
def yX6_rank : MethodName := ⟨RX6, "rank", "(II)I"⟩
abbrev cX6_next : ByteArray := prog_8_method_17_code
def yX6_next : MethodName := ⟨RX6, "next", "(II)I"⟩
abbrev cX6_ring : ByteArray := prog_8_method_18_code
def yX6_ring : MethodName := ⟨RX6, "ring", "(II)I"⟩
abbrev cX6_leastOfRing : ByteArray := prog_8_method_19_code
def yX6_leastOfRing : MethodName := ⟨RX6, "leastOfRing", "(II)Z"⟩
abbrev cX6_rings : ByteArray := prog_8_method_20_code
def yX6_rings : MethodName := ⟨RX6, "rings", "(II)I"⟩
abbrev cX6_nthLeast : ByteArray := prog_8_method_21_code
def yX6_nthLeast : MethodName := ⟨RX6, "nthLeast", "(III)I"⟩
abbrev cX6_kind : ByteArray := prog_8_method_22_code
def yX6_kind : MethodName := ⟨RX6, "kind", "(II)I"⟩
abbrev cX6_resting : ByteArray := prog_8_method_23_code
def yX6_resting : MethodName := ⟨RX6, "resting", "(II)I"⟩
abbrev cX6_order : ByteArray := prog_8_method_24_code
def yX6_order : MethodName := ⟨RX6, "order", "(II)I"⟩
abbrev cX6_multiple : ByteArray := prog_8_method_25_code
def yX6_multiple : MethodName := ⟨RX6, "multiple", "(II)I"⟩
abbrev cX6_times : ByteArray := prog_8_method_26_code
def yX6_times : MethodName := ⟨RX6, "times", "(II)I"⟩
abbrev cX6_step : ByteArray := prog_8_method_27_code
def yX6_step : MethodName := ⟨RX6, "step", "(III)I"⟩
abbrev cX6_isRoot : ByteArray := prog_8_method_28_code
def yX6_isRoot : MethodName := ⟨RX6, "isRoot", "(III)Z"⟩
abbrev cX6_black : ByteArray := prog_8_method_29_code
def yX6_black : MethodName := ⟨RX6, "black", "(III)I"⟩
abbrev cX6_white : ByteArray := prog_8_method_30_code
def yX6_white : MethodName := ⟨RX6, "white", "(III)I"⟩
abbrev cX6_reach : ByteArray := prog_8_method_31_code
def yX6_reach : MethodName := ⟨RX6, "reach", "(III)I"⟩
abbrev cX6_joined : ByteArray := prog_8_method_32_code
def yX6_joined : MethodName := ⟨RX6, "joined", "(III)Z"⟩
abbrev cX6_parts : ByteArray := prog_8_method_33_code
def yX6_parts : MethodName := ⟨RX6, "parts", "(III)I"⟩
abbrev cX6_genus : ByteArray := prog_8_method_34_code
def yX6_genus : MethodName := ⟨RX6, "genus", "(III)I"⟩
abbrev cX6_around : ByteArray := prog_8_method_35_code
def yX6_around : MethodName := ⟨RX6, "around", "(III)I"⟩
abbrev cX6_least : ByteArray := prog_8_method_36_code
def yX6_least : MethodName := ⟨RX6, "least", "(II)I"⟩
def RX7 : String := "DrawnMaps$Reader"
def TX7 : u_T := fun k => match k with
  | 0 => ("DrawnMaps$Reader", "n", "I", false)
  | 1 => ("DrawnMaps$Reader", "stand", "I", false)
  | 2 => ("DrawnMaps$Reader", "told", "I", false)
  | 3 => ("DrawnMaps$Reader", "first", "I", false)
  | 4 => ("DrawnMaps$Reader", "last", "I", false)
  | _ => ("DrawnMaps$Reader", "p", "I", false)
def tyX7 : Nat → FieldType := fun k => match k with
  | 0 => .int
  | 1 => .int
  | 2 => .int
  | 3 => .int
  | 4 => .int
  | _ => .int
abbrev wsX70 : List Cond := u_ws RX7 TX7 6
theorem nmX7 : ∀ a, a < 6 → ∀ b, b < 6 → a ≠ b → (TX7 a).2.1 ≠ (TX7 b).2.1 := by decide +kernel
theorem tyX7_ok : ∀ k, k < 6 → parseFieldDescriptor (TX7 k).2.2.1 = some (tyX7 k) := by decide +kernel
abbrev cX7_init : ByteArray := prog_9_method_1_code
def yX7_init : MethodName := ⟨RX7, "<init>", "()V"⟩
abbrev cX7_begin : ByteArray := prog_9_method_2_code
def yX7_begin : MethodName := ⟨RX7, "begin", "(I)V"⟩
abbrev cX7_fault : ByteArray := prog_9_method_3_code
def yX7_fault : MethodName := ⟨RX7, "fault", "(I)I"⟩
abbrev cX7_step : ByteArray := prog_9_method_4_code
def yX7_step : MethodName := ⟨RX7, "step", "(ZI)I"⟩
abbrev cX7_close : ByteArray := prog_9_method_5_code
def yX7_close : MethodName := ⟨RX7, "close", "()I"⟩
abbrev cX7_number : ByteArray := prog_9_method_6_code
def yX7_number : MethodName := ⟨RX7, "number", "(I)I"⟩
abbrev cX7_complete : ByteArray := prog_9_method_7_code
def yX7_complete : MethodName := ⟨RX7, "complete", "()Z"⟩
abbrev cX7_permutation : ByteArray := prog_9_method_8_code
def yX7_permutation : MethodName := ⟨RX7, "permutation", "()I"⟩
def RX8 : String := "DrawnMaps$Relabels"
def TX8 : u_T := fun k => match k with
  | 0 => ("DrawnMaps$Relabels", "found", "[I", true)
  | 1 => ("DrawnMaps$Relabels", "ringFrom", "[I", true)
  | 2 => ("DrawnMaps$Relabels", "ringTo", "[I", true)
  | 3 => ("DrawnMaps$Relabels", "n", "I", false)
  | 4 => ("DrawnMaps$Relabels", "from", "I", false)
  | 5 => ("DrawnMaps$Relabels", "to", "I", false)
  | 6 => ("DrawnMaps$Relabels", "many", "I", false)
  | 7 => ("DrawnMaps$Relabels", "leastS", "I", false)
  | 8 => ("DrawnMaps$Relabels", "leastA", "I", false)
  | _ => ("DrawnMaps$Relabels", "auts", "I", false)
def tyX8 : Nat → FieldType := fun k => match k with
  | 0 => .array .int
  | 1 => .array .int
  | 2 => .array .int
  | 3 => .int
  | 4 => .int
  | 5 => .int
  | 6 => .int
  | 7 => .int
  | 8 => .int
  | _ => .int
abbrev wsX80 : List Cond := u_ws RX8 TX8 10
theorem nmX8 : ∀ a, a < 10 → ∀ b, b < 10 → a ≠ b → (TX8 a).2.1 ≠ (TX8 b).2.1 := by decide +kernel
theorem tyX8_ok : ∀ k, k < 10 → parseFieldDescriptor (TX8 k).2.2.1 = some (tyX8 k) := by decide +kernel
abbrev cX8_init : ByteArray := prog_10_method_1_code
def yX8_init : MethodName := ⟨RX8, "<init>", "()V"⟩
abbrev cX8_gather : ByteArray := prog_10_method_2_code
def yX8_gather : MethodName := ⟨RX8, "gather", "(III)V"⟩
abbrev cX8_nth : ByteArray := prog_10_method_3_code
def yX8_nth : MethodName := ⟨RX8, "nth", "(I)I"⟩
abbrev cX8_grow : ByteArray := prog_10_method_4_code
def yX8_grow : MethodName := ⟨RX8, "grow", "(LDrawnMaps$Relabels;IIII)V"⟩
abbrev cX8_laid : ByteArray := prog_10_method_5_code
def yX8_laid : MethodName := ⟨RX8, "laid", "(III)I"⟩
abbrev cX8_first : ByteArray := prog_10_method_6_code
def yX8_first : MethodName := ⟨RX8, "first", "(IIIII)I"⟩
abbrev cX8_settle : ByteArray := prog_10_method_7_code
def yX8_settle : MethodName := ⟨RX8, "settle", "(III)V"⟩
abbrev cX8_symmetries : ByteArray := prog_10_method_8_code
def yX8_symmetries : MethodName := ⟨RX8, "symmetries", "(III)I"⟩
def RX9 : String := "DrawnMaps$State"
def TX9 : u_T := fun k => match k with
  | 0 => ("DrawnMaps$State", "n", "I", false)
  | 1 => ("DrawnMaps$State", "s", "I", false)
  | 2 => ("DrawnMaps$State", "a", "I", false)
  | 3 => ("DrawnMaps$State", "pieces", "I", false)
  | 4 => ("DrawnMaps$State", "darts", "[I", true)
  | 5 => ("DrawnMaps$State", "blacks", "[I", true)
  | _ => ("DrawnMaps$State", "whites", "[I", true)
def tyX9 : Nat → FieldType := fun k => match k with
  | 0 => .int
  | 1 => .int
  | 2 => .int
  | 3 => .int
  | 4 => .array .int
  | 5 => .array .int
  | _ => .array .int
abbrev wsX90 : List Cond := u_ws RX9 TX9 7
theorem nmX9 : ∀ a, a < 7 → ∀ b, b < 7 → a ≠ b → (TX9 a).2.1 ≠ (TX9 b).2.1 := by decide +kernel
theorem tyX9_ok : ∀ k, k < 7 → parseFieldDescriptor (TX9 k).2.2.1 = some (tyX9 k) := by decide +kernel
abbrev cX9_init : ByteArray := prog_11_method_1_code
def yX9_init : MethodName := ⟨RX9, "<init>", "()V"⟩
abbrev cX9_become : ByteArray := prog_11_method_2_code
def yX9_become : MethodName := ⟨RX9, "become", "(LDrawnMaps$State;)V"⟩
abbrev cX9_placeOf : ByteArray := prog_11_method_3_code
def yX9_placeOf : MethodName := ⟨RX9, "placeOf", "(III)I"⟩
abbrev cX9_add : ByteArray := prog_11_method_4_code
def yX9_add : MethodName := ⟨RX9, "add", "(III)I"⟩
def RX10 : String := "DrawnMaps"
def TX10 : u_T := fun k => match k with
  | 0 => ("DrawnMaps", "tape", "[I", true)
  | 1 => ("DrawnMaps", "bytes", "I", false)
  | 2 => ("DrawnMaps", "lot", "I", false)
  | 3 => ("DrawnMaps", "now", "LDrawnMaps$State;", true)
  | 4 => ("DrawnMaps", "kept", "[LDrawnMaps$State;", true)
  | 5 => ("DrawnMaps", "states", "I", false)
  | 6 => ("DrawnMaps", "relabels", "LDrawnMaps$Relabels;", true)
  | 7 => ("DrawnMaps", "chain", "LDrawnMaps$Chain;", true)
  | 8 => ("DrawnMaps", "group", "LDrawnMaps$Group;", true)
  | 9 => ("DrawnMaps", "blocks", "LDrawnMaps$Blocks;", true)
  | 10 => ("DrawnMaps", "census", "LDrawnMaps$Census;", true)
  | 11 => ("DrawnMaps", "relatives", "LDrawnMaps$Family;", true)
  | _ => ("DrawnMaps", "reader", "LDrawnMaps$Reader;", true)
def tyX10 : Nat → FieldType := fun k => match k with
  | 0 => .array .int
  | 1 => .int
  | 2 => .int
  | 3 => .object "DrawnMaps$State"
  | 4 => .array (.object "DrawnMaps$State")
  | 5 => .int
  | 6 => .object "DrawnMaps$Relabels"
  | 7 => .object "DrawnMaps$Chain"
  | 8 => .object "DrawnMaps$Group"
  | 9 => .object "DrawnMaps$Blocks"
  | 10 => .object "DrawnMaps$Census"
  | 11 => .object "DrawnMaps$Family"
  | _ => .object "DrawnMaps$Reader"
abbrev wsX100 : List Cond := u_ws RX10 TX10 13
theorem nmX10 : ∀ a, a < 13 → ∀ b, b < 13 → a ≠ b → (TX10 a).2.1 ≠ (TX10 b).2.1 := by decide +kernel
theorem tyX10_ok : ∀ k, k < 13 → parseFieldDescriptor (TX10 k).2.2.1 = some (tyX10 k) := by decide +kernel
abbrev cX10_init : ByteArray := prog_1_method_1_code
def yX10_init : MethodName := ⟨RX10, "<init>", "()V"⟩
abbrev cX10_feed : ByteArray := prog_1_method_2_code
def yX10_feed : MethodName := ⟨RX10, "feed", "(IIIII)I"⟩
abbrev cX10_append : ByteArray := prog_1_method_3_code
def yX10_append : MethodName := ⟨RX10, "append", "(I)V"⟩
abbrev cX10_degree : ByteArray := prog_1_method_4_code
def yX10_degree : MethodName := ⟨RX10, "degree", "(I)I"⟩
abbrev cX10_set : ByteArray := prog_1_method_5_code
def yX10_set : MethodName := ⟨RX10, "set", "(II)I"⟩
abbrev cX10_colour : ByteArray := prog_1_method_6_code
def yX10_colour : MethodName := ⟨RX10, "colour", "(I)Z"⟩
abbrev cX10_put : ByteArray := prog_1_method_7_code
def yX10_put : MethodName := ⟨RX10, "put", "(II)V"⟩
abbrev cX10_text : ByteArray := prog_1_method_8_code
def yX10_text : MethodName := ⟨RX10, "text", "(II)I"⟩
abbrev cX10_readable : ByteArray := prog_1_method_9_code
def yX10_readable : MethodName := ⟨RX10, "readable", "(I)Z"⟩
abbrev cX10_drawn : ByteArray := prog_1_method_10_code
def yX10_drawn : MethodName := ⟨RX10, "drawn", "(I)I"⟩
abbrev cX10_shuffled : ByteArray := prog_1_method_11_code
def yX10_shuffled : MethodName := ⟨RX10, "shuffled", "(I)I"⟩
abbrev cX10_operate : ByteArray := prog_1_method_12_code
def yX10_operate : MethodName := ⟨RX10, "operate", "(I)I"⟩
abbrev cX10_tidy : ByteArray := prog_1_method_13_code
def yX10_tidy : MethodName := ⟨RX10, "tidy", "()I"⟩
abbrev cX10_code : ByteArray := prog_1_method_14_code
def yX10_code : MethodName := ⟨RX10, "code", "(I)I"⟩
abbrev cX10_turn : ByteArray := prog_1_method_15_code
def yX10_turn : MethodName := ⟨RX10, "turn", "(I)I"⟩
abbrev cX10_type : ByteArray := prog_1_method_16_code
def yX10_type : MethodName := ⟨RX10, "type", "(I)I"⟩
abbrev cX10_cycles : ByteArray := prog_1_method_17_code
def yX10_cycles : MethodName := ⟨RX10, "cycles", "(II)I"⟩
abbrev cX10_dartStands : ByteArray := prog_1_method_18_code
def yX10_dartStands : MethodName := ⟨RX10, "dartStands", "(I)Z"⟩
abbrev cX10_along : ByteArray := prog_1_method_19_code
def yX10_along : MethodName := ⟨RX10, "along", "(III)I"⟩
abbrev cX10_count : ByteArray := prog_1_method_20_code
def yX10_count : MethodName := ⟨RX10, "count", "(I)I"⟩
abbrev cX10_connected : ByteArray := prog_1_method_21_code
def yX10_connected : MethodName := ⟨RX10, "connected", "()Z"⟩
abbrev cX10_siblings : ByteArray := prog_1_method_22_code
def yX10_siblings : MethodName := ⟨RX10, "siblings", "()I"⟩
abbrev cX10_part : ByteArray := prog_1_method_23_code
def yX10_part : MethodName := ⟨RX10, "part", "(II)I"⟩
abbrev cX10_canon : ByteArray := prog_1_method_24_code
def yX10_canon : MethodName := ⟨RX10, "canon", "(I)I"⟩
abbrev cX10_point : ByteArray := prog_1_method_25_code
def yX10_point : MethodName := ⟨RX10, "point", "(III)I"⟩
abbrev cX10_same : ByteArray := prog_1_method_26_code
def yX10_same : MethodName := ⟨RX10, "same", "(II)I"⟩
abbrev cX10_label : ByteArray := prog_1_method_27_code
def yX10_label : MethodName := ⟨RX10, "label", "(II)I"⟩
abbrev cX10_ofType : ByteArray := prog_1_method_28_code
def yX10_ofType : MethodName := ⟨RX10, "ofType", "(I)I"⟩
abbrev cX10_kindStands : ByteArray := prog_1_method_29_code
def yX10_kindStands : MethodName := ⟨RX10, "kindStands", "(I)Z"⟩
abbrev cX10_elements : ByteArray := prog_1_method_30_code
def yX10_elements : MethodName := ⟨RX10, "elements", "(I)I"⟩
abbrev cX10_length : ByteArray := prog_1_method_31_code
def yX10_length : MethodName := ⟨RX10, "length", "(I)I"⟩
abbrev cX10_block : ByteArray := prog_1_method_32_code
def yX10_block : MethodName := ⟨RX10, "block", "(II)I"⟩
abbrev cX10_kinds : ByteArray := prog_1_method_33_code
def yX10_kinds : MethodName := ⟨RX10, "kinds", "(I)I"⟩
abbrev cX10_size : ByteArray := prog_1_method_34_code
def yX10_size : MethodName := ⟨RX10, "size", "(I)I"⟩
abbrev cX10_character : ByteArray := prog_1_method_35_code
def yX10_character : MethodName := ⟨RX10, "character", "(II)I"⟩
abbrev cX10_triples : ByteArray := prog_1_method_36_code
def yX10_triples : MethodName := ⟨RX10, "triples", "(IIII)J"⟩
abbrev cX10_connectedMaps : ByteArray := prog_1_method_37_code
def yX10_connectedMaps : MethodName := ⟨RX10, "connectedMaps", "(III)J"⟩
abbrev cX10_classes : ByteArray := prog_1_method_38_code
def yX10_classes : MethodName := ⟨RX10, "classes", "(IIIII)I"⟩
abbrev cX10_ofClass : ByteArray := prog_1_method_39_code
def yX10_ofClass : MethodName := ⟨RX10, "ofClass", "(IIII)I"⟩
abbrev cX10_mass : ByteArray := prog_1_method_40_code
def yX10_mass : MethodName := ⟨RX10, "mass", "(IIII)J"⟩
abbrev cX10_common : ByteArray := prog_1_method_41_code
def yX10_common : MethodName := ⟨RX10, "common", "(JJ)J"⟩
abbrev cX10_genera : ByteArray := prog_1_method_42_code
def yX10_genera : MethodName := ⟨RX10, "genera", "(III)J"⟩
abbrev cX10_thirds : ByteArray := prog_1_method_43_code
def yX10_thirds : MethodName := ⟨RX10, "thirds", "(III)I"⟩
abbrev cX10_family : ByteArray := prog_1_method_44_code
def yX10_family : MethodName := ⟨RX10, "family", "(II)I"⟩
abbrev cX10_walk : ByteArray := prog_1_method_45_code
def yX10_walk : MethodName := ⟨RX10, "walk", "(II)I"⟩
abbrev cX10_spelt : ByteArray := prog_1_method_46_code
def yX10_spelt : MethodName := ⟨RX10, "spelt", "(I)I"⟩
abbrev cX10_letter : ByteArray := prog_1_method_47_code
def yX10_letter : MethodName := ⟨RX10, "letter", "(I)I"⟩
abbrev cX10_made : ByteArray := prog_1_method_48_code
def yX10_made : MethodName := ⟨RX10, "made", "(II)I"⟩
abbrev cX10_power : ByteArray := prog_1_method_49_code
def yX10_power : MethodName := ⟨RX10, "power", "(II)I"⟩
abbrev cX10_roots : ByteArray := prog_1_method_50_code
def yX10_roots : MethodName := ⟨RX10, "roots", "(III)I"⟩
abbrev cX10_reckon : ByteArray := prog_1_method_51_code
def yX10_reckon : MethodName := ⟨RX10, "reckon", "(III)I"⟩
abbrev cX10_way : ByteArray := prog_1_method_52_code
def yX10_way : MethodName := ⟨RX10, "way", "(II)I"⟩
abbrev cX10_meet : ByteArray := prog_1_method_53_code
def yX10_meet : MethodName := ⟨RX10, "meet", "(IIII)I"⟩
abbrev cX10_paste : ByteArray := prog_1_method_54_code
def yX10_paste : MethodName := ⟨RX10, "paste", "()I"⟩
abbrev cX10_piece : ByteArray := prog_1_method_55_code
def yX10_piece : MethodName := ⟨RX10, "piece", "(II)I"⟩
abbrev cX10_take : ByteArray := prog_1_method_56_code
def yX10_take : MethodName := ⟨RX10, "take", "(I)I"⟩
abbrev cX10_keep : ByteArray := prog_1_method_57_code
def yX10_keep : MethodName := ⟨RX10, "keep", "()I"⟩
abbrev cX10_undo : ByteArray := prog_1_method_58_code
def yX10_undo : MethodName := ⟨RX10, "undo", "()I"⟩
def RX11 : String := "DrawnMapsModel"
def TX11 : u_T := fun k => match k with
  | 0 => ("DrawnMapsModel", "n", "I", false)
  | 1 => ("DrawnMapsModel", "sCode", "I", false)
  | 2 => ("DrawnMapsModel", "aCode", "I", false)
  | 3 => ("DrawnMapsModel", "factorial", "I", false)
  | 4 => ("DrawnMapsModel", "kindMany", "I", false)
  | 5 => ("DrawnMapsModel", "perms", "[I", true)
  | 6 => ("DrawnMapsModel", "kind", "[I", true)
  | 7 => ("DrawnMapsModel", "typeOfKind", "[I", true)
  | 8 => ("DrawnMapsModel", "sizeOfKind", "[I", true)
  | 9 => ("DrawnMapsModel", "leastOfKind", "[I", true)
  | 10 => ("DrawnMapsModel", "dX", "[I", true)
  | 11 => ("DrawnMapsModel", "dY", "[I", true)
  | 12 => ("DrawnMapsModel", "dZ", "[I", true)
  | 13 => ("DrawnMapsModel", "longs", "[I", true)
  | 14 => ("DrawnMapsModel", "dAll", "[I", true)
  | 15 => ("DrawnMapsModel", "tape", "[B", true)
  | 16 => ("DrawnMapsModel", "taped", "I", false)
  | 17 => ("DrawnMapsModel", "place", "I", false)
  | 18 => ("DrawnMapsModel", "textLong", "I", false)
  | 19 => ("DrawnMapsModel", "fault", "I", false)
  | 20 => ("DrawnMapsModel", "dRead", "[I", true)
  | 21 => ("DrawnMapsModel", "drawnNow", "I", false)
  | 22 => ("DrawnMapsModel", "opS", "I", false)
  | 23 => ("DrawnMapsModel", "opA", "I", false)
  | 24 => ("DrawnMapsModel", "canonS", "I", false)
  | 25 => ("DrawnMapsModel", "canonA", "I", false)
  | 26 => ("DrawnMapsModel", "dS", "[I", true)
  | 27 => ("DrawnMapsModel", "dA", "[I", true)
  | 28 => ("DrawnMapsModel", "dist", "[I", true)
  | 29 => ("DrawnMapsModel", "queue", "[I", true)
  | 30 => ("DrawnMapsModel", "gen", "[I", true)
  | 31 => ("DrawnMapsModel", "groupMany", "I", false)
  | 32 => ("DrawnMapsModel", "sets", "[I", true)
  | 33 => ("DrawnMapsModel", "setMany", "I", false)
  | 34 => ("DrawnMapsModel", "blockSize", "I", false)
  | 35 => ("DrawnMapsModel", "blockFirst", "I", false)
  | 36 => ("DrawnMapsModel", "digits", "[I", true)
  | 37 => ("DrawnMapsModel", "digitMany", "I", false)
  | 38 => ("DrawnMapsModel", "figure", "[I", true)
  | 39 => ("DrawnMapsModel", "value", "[I", true)
  | 40 => ("DrawnMapsModel", "figureNext", "[I", true)
  | 41 => ("DrawnMapsModel", "valueNext", "[I", true)
  | 42 => ("DrawnMapsModel", "nextMany", "I", false)
  | 43 => ("DrawnMapsModel", "cent", "[I", true)
  | 44 => ("DrawnMapsModel", "classA", "[I", true)
  | 45 => ("DrawnMapsModel", "classAuts", "[I", true)
  | 46 => ("DrawnMapsModel", "classMany", "I", false)
  | 47 => ("DrawnMapsModel", "isThird", "[Z", true)
  | 48 => ("DrawnMapsModel", "famS", "[I", true)
  | 49 => ("DrawnMapsModel", "famA", "[I", true)
  | 50 => ("DrawnMapsModel", "famMany", "I", false)
  | 51 => ("DrawnMapsModel", "turns", "[I", true)
  | 52 => ("DrawnMapsModel", "pieces", "I", false)
  | 53 => ("DrawnMapsModel", "states", "I", false)
  | 54 => ("DrawnMapsModel", "pieceN", "[I", true)
  | 55 => ("DrawnMapsModel", "pieceS", "[I", true)
  | 56 => ("DrawnMapsModel", "pieceA", "[I", true)
  | 57 => ("DrawnMapsModel", "pieceGenus", "[I", true)
  | _ => ("DrawnMapsModel", "kept", "[I", true)
def tyX11 : Nat → FieldType := fun k => match k with
  | 0 => .int
  | 1 => .int
  | 2 => .int
  | 3 => .int
  | 4 => .int
  | 5 => .array .int
  | 6 => .array .int
  | 7 => .array .int
  | 8 => .array .int
  | 9 => .array .int
  | 10 => .array .int
  | 11 => .array .int
  | 12 => .array .int
  | 13 => .array .int
  | 14 => .array .int
  | 15 => .array .byte
  | 16 => .int
  | 17 => .int
  | 18 => .int
  | 19 => .int
  | 20 => .array .int
  | 21 => .int
  | 22 => .int
  | 23 => .int
  | 24 => .int
  | 25 => .int
  | 26 => .array .int
  | 27 => .array .int
  | 28 => .array .int
  | 29 => .array .int
  | 30 => .array .int
  | 31 => .int
  | 32 => .array .int
  | 33 => .int
  | 34 => .int
  | 35 => .int
  | 36 => .array .int
  | 37 => .int
  | 38 => .array .int
  | 39 => .array .int
  | 40 => .array .int
  | 41 => .array .int
  | 42 => .int
  | 43 => .array .int
  | 44 => .array .int
  | 45 => .array .int
  | 46 => .int
  | 47 => .array .boolean
  | 48 => .array .int
  | 49 => .array .int
  | 50 => .int
  | 51 => .array .int
  | 52 => .int
  | 53 => .int
  | 54 => .array .int
  | 55 => .array .int
  | 56 => .array .int
  | 57 => .array .int
  | _ => .array .int
abbrev wsX110 : List Cond := u_ws RX11 TX11 59
theorem nmX11 : ∀ a, a < 59 → ∀ b, b < 59 → a ≠ b → (TX11 a).2.1 ≠ (TX11 b).2.1 := by decide +kernel
theorem tyX11_ok : ∀ k, k < 59 → parseFieldDescriptor (TX11 k).2.2.1 = some (tyX11 k) := by decide +kernel
abbrev cX11_init : ByteArray := prog_13_method_1_code
def yX11_init : MethodName := ⟨RX11, "<init>", "()V"⟩
abbrev cX11_in : ByteArray := prog_13_method_2_code
def yX11_in : MethodName := ⟨RX11, "in", "(III)Z"⟩
abbrev cX11_isThree : ByteArray := prog_13_method_3_code
def yX11_isThree : MethodName := ⟨RX11, "isThree", "(I)Z"⟩
abbrev cX11_isDart : ByteArray := prog_13_method_4_code
def yX11_isDart : MethodName := ⟨RX11, "isDart", "(I)Z"⟩
abbrev cX11_reads : ByteArray := prog_13_method_5_code
def yX11_reads : MethodName := ⟨RX11, "reads", "(I[I)V"⟩
abbrev cX11_told : ByteArray := prog_13_method_6_code
def yX11_told : MethodName := ⟨RX11, "told", "([I)I"⟩
abbrev cX11_isCode : ByteArray := prog_13_method_7_code
def yX11_isCode : MethodName := ⟨RX11, "isCode", "(I)Z"⟩
abbrev cX11_stays : ByteArray := prog_13_method_8_code
def yX11_stays : MethodName := ⟨RX11, "stays", "()I"⟩
abbrev cX11_then : ByteArray := prog_13_method_9_code
def yX11_then : MethodName := ⟨RX11, "then", "(II)I"⟩
abbrev cX11_back : ByteArray := prog_13_method_10_code
def yX11_back : MethodName := ⟨RX11, "back", "(I)I"⟩
abbrev cX11_relabelled : ByteArray := prog_13_method_11_code
def yX11_relabelled : MethodName := ⟨RX11, "relabelled", "(II)I"⟩
abbrev cX11_facesOf : ByteArray := prog_13_method_12_code
def yX11_facesOf : MethodName := ⟨RX11, "facesOf", "(II)I"⟩
abbrev cX11_codeOf : ByteArray := prog_13_method_13_code
def yX11_codeOf : MethodName := ⟨RX11, "codeOf", "(I)I"⟩
abbrev cX11_bringsTo : ByteArray := prog_13_method_14_code
def yX11_bringsTo : MethodName := ⟨RX11, "bringsTo", "(II)I"⟩
abbrev cX11_cycleLong : ByteArray := prog_13_method_15_code
def yX11_cycleLong : MethodName := ⟨RX11, "cycleLong", "(II)I"⟩
abbrev cX11_isLeast : ByteArray := prog_13_method_16_code
def yX11_isLeast : MethodName := ⟨RX11, "isLeast", "(II)Z"⟩
abbrev cX11_cyclesOf : ByteArray := prog_13_method_17_code
def yX11_cyclesOf : MethodName := ⟨RX11, "cyclesOf", "(I)I"⟩
abbrev cX11_typeOf : ByteArray := prog_13_method_18_code
def yX11_typeOf : MethodName := ⟨RX11, "typeOf", "(I)I"⟩
abbrev cX11_goesOn : ByteArray := prog_13_method_19_code
def yX11_goesOn : MethodName := ⟨RX11, "goesOn", "([I)Z"⟩
abbrev cX11_laysAll : ByteArray := prog_13_method_20_code
def yX11_laysAll : MethodName := ⟨RX11, "laysAll", "()V"⟩
abbrev cX11_kindOf : ByteArray := prog_13_method_21_code
def yX11_kindOf : MethodName := ⟨RX11, "kindOf", "(I)I"⟩
abbrev cX11_becomes : ByteArray := prog_13_method_22_code
def yX11_becomes : MethodName := ⟨RX11, "becomes", "(I)V"⟩
abbrev cX11_begins : ByteArray := prog_13_method_23_code
def yX11_begins : MethodName := ⟨RX11, "begins", "(I)V"⟩
abbrev cX11_placeOf : ByteArray := prog_13_method_24_code
def yX11_placeOf : MethodName := ⟨RX11, "placeOf", "(I)I"⟩
abbrev cX11_typed4 : ByteArray := prog_13_method_25_code
def yX11_typed4 : MethodName := ⟨RX11, "typed4", "(I)V"⟩
abbrev cX11_feed : ByteArray := prog_13_method_26_code
def yX11_feed : MethodName := ⟨RX11, "feed", "(IIIII)I"⟩
abbrev cX11_hasText : ByteArray := prog_13_method_27_code
def yX11_hasText : MethodName := ⟨RX11, "hasText", "(I)Z"⟩
abbrev cX11_degree : ByteArray := prog_13_method_28_code
def yX11_degree : MethodName := ⟨RX11, "degree", "(I)I"⟩
abbrev cX11_puts : ByteArray := prog_13_method_29_code
def yX11_puts : MethodName := ⟨RX11, "puts", "(II)V"⟩
abbrev cX11_set : ByteArray := prog_13_method_30_code
def yX11_set : MethodName := ⟨RX11, "set", "(II)I"⟩
abbrev cX11_see : ByteArray := prog_13_method_31_code
def yX11_see : MethodName := ⟨RX11, "see", "()I"⟩
abbrev cX11_wrong : ByteArray := prog_13_method_32_code
def yX11_wrong : MethodName := ⟨RX11, "wrong", "(I)V"⟩
abbrev cX11_readsCycle : ByteArray := prog_13_method_33_code
def yX11_readsCycle : MethodName := ⟨RX11, "readsCycle", "(I)I"⟩
abbrev cX11_text : ByteArray := prog_13_method_34_code
def yX11_text : MethodName := ⟨RX11, "text", "(II)I"⟩
abbrev cX11_draw : ByteArray := prog_13_method_35_code
def yX11_draw : MethodName := ⟨RX11, "draw", "(I)I"⟩
abbrev cX11_drawnOne : ByteArray := prog_13_method_36_code
def yX11_drawnOne : MethodName := ⟨RX11, "drawnOne", "()I"⟩
abbrev cX11_drawn : ByteArray := prog_13_method_37_code
def yX11_drawn : MethodName := ⟨RX11, "drawn", "(I)I"⟩
abbrev cX11_operates : ByteArray := prog_13_method_38_code
def yX11_operates : MethodName := ⟨RX11, "operates", "(III)V"⟩
abbrev cX11_operate : ByteArray := prog_13_method_39_code
def yX11_operate : MethodName := ⟨RX11, "operate", "(I)I"⟩
abbrev cX11_laysCanon : ByteArray := prog_13_method_40_code
def yX11_laysCanon : MethodName := ⟨RX11, "laysCanon", "(II)V"⟩
abbrev cX11_tidy : ByteArray := prog_13_method_41_code
def yX11_tidy : MethodName := ⟨RX11, "tidy", "()I"⟩
abbrev cX11_canon : ByteArray := prog_13_method_42_code
def yX11_canon : MethodName := ⟨RX11, "canon", "(I)I"⟩
abbrev cX11_autsOf : ByteArray := prog_13_method_43_code
def yX11_autsOf : MethodName := ⟨RX11, "autsOf", "(II)I"⟩
abbrev cX11_symmetric : ByteArray := prog_13_method_44_code
def yX11_symmetric : MethodName := ⟨RX11, "symmetric", "(II)I"⟩
abbrev cX11_same : ByteArray := prog_13_method_45_code
def yX11_same : MethodName := ⟨RX11, "same", "(II)I"⟩
abbrev cX11_labelOf : ByteArray := prog_13_method_46_code
def yX11_labelOf : MethodName := ⟨RX11, "labelOf", "(II)I"⟩
abbrev cX11_label : ByteArray := prog_13_method_47_code
def yX11_label : MethodName := ⟨RX11, "label", "(II)I"⟩
abbrev cX11_code : ByteArray := prog_13_method_48_code
def yX11_code : MethodName := ⟨RX11, "code", "(I)I"⟩
abbrev cX11_type : ByteArray := prog_13_method_49_code
def yX11_type : MethodName := ⟨RX11, "type", "(I)I"⟩
abbrev cX11_orderOf : ByteArray := prog_13_method_50_code
def yX11_orderOf : MethodName := ⟨RX11, "orderOf", "(I)I"⟩
abbrev cX11_cycles : ByteArray := prog_13_method_51_code
def yX11_cycles : MethodName := ⟨RX11, "cycles", "(II)I"⟩
abbrev cX11_along : ByteArray := prog_13_method_52_code
def yX11_along : MethodName := ⟨RX11, "along", "(III)I"⟩
abbrev cX11_point : ByteArray := prog_13_method_53_code
def yX11_point : MethodName := ⟨RX11, "point", "(III)I"⟩
abbrev cX11_partOf : ByteArray := prog_13_method_54_code
def yX11_partOf : MethodName := ⟨RX11, "partOf", "(III)I"⟩
abbrev cX11_isConnected : ByteArray := prog_13_method_55_code
def yX11_isConnected : MethodName := ⟨RX11, "isConnected", "(II)Z"⟩
abbrev cX11_isOne : ByteArray := prog_13_method_56_code
def yX11_isOne : MethodName := ⟨RX11, "isOne", "()Z"⟩
abbrev cX11_bits : ByteArray := prog_13_method_57_code
def yX11_bits : MethodName := ⟨RX11, "bits", "(I)I"⟩
abbrev cX11_genusOf : ByteArray := prog_13_method_58_code
def yX11_genusOf : MethodName := ⟨RX11, "genusOf", "(II)I"⟩
abbrev cX11_part : ByteArray := prog_13_method_59_code
def yX11_part : MethodName := ⟨RX11, "part", "(II)I"⟩
abbrev cX11_parts : ByteArray := prog_13_method_60_code
def yX11_parts : MethodName := ⟨RX11, "parts", "()I"⟩
abbrev cX11_meets : ByteArray := prog_13_method_61_code
def yX11_meets : MethodName := ⟨RX11, "meets", "(II)V"⟩
abbrev cX11_laysGroup : ByteArray := prog_13_method_62_code
def yX11_laysGroup : MethodName := ⟨RX11, "laysGroup", "(II)I"⟩
abbrev cX11_ofType : ByteArray := prog_13_method_63_code
def yX11_ofType : MethodName := ⟨RX11, "ofType", "(I)I"⟩
abbrev cX11_elements : ByteArray := prog_13_method_64_code
def yX11_elements : MethodName := ⟨RX11, "elements", "(I)I"⟩
abbrev cX11_lengthOf : ByteArray := prog_13_method_65_code
def yX11_lengthOf : MethodName := ⟨RX11, "lengthOf", "(I)I"⟩
abbrev cX11_length : ByteArray := prog_13_method_66_code
def yX11_length : MethodName := ⟨RX11, "length", "(I)I"⟩
abbrev cX11_image : ByteArray := prog_13_method_67_code
def yX11_image : MethodName := ⟨RX11, "image", "(I[I)I"⟩
abbrev cX11_fits : ByteArray := prog_13_method_68_code
def yX11_fits : MethodName := ⟨RX11, "fits", "(I)Z"⟩
abbrev cX11_isSystem : ByteArray := prog_13_method_69_code
def yX11_isSystem : MethodName := ⟨RX11, "isSystem", "(I)Z"⟩
abbrev cX11_systems : ByteArray := prog_13_method_70_code
def yX11_systems : MethodName := ⟨RX11, "systems", "(I)I"⟩
abbrev cX11_lowest : ByteArray := prog_13_method_71_code
def yX11_lowest : MethodName := ⟨RX11, "lowest", "(I)I"⟩
abbrev cX11_numberOf : ByteArray := prog_13_method_72_code
def yX11_numberOf : MethodName := ⟨RX11, "numberOf", "(I)I"⟩
abbrev cX11_quotient : ByteArray := prog_13_method_73_code
def yX11_quotient : MethodName := ⟨RX11, "quotient", "([I)I"⟩
abbrev cX11_block : ByteArray := prog_13_method_74_code
def yX11_block : MethodName := ⟨RX11, "block", "(II)I"⟩
abbrev cX11_kinds : ByteArray := prog_13_method_75_code
def yX11_kinds : MethodName := ⟨RX11, "kinds", "(I)I"⟩
abbrev cX11_size : ByteArray := prog_13_method_76_code
def yX11_size : MethodName := ⟨RX11, "size", "(I)I"⟩
abbrev cX11_laysDigits : ByteArray := prog_13_method_77_code
def yX11_laysDigits : MethodName := ⟨RX11, "laysDigits", "(I)V"⟩
abbrev cX11_figureOf : ByteArray := prog_13_method_78_code
def yX11_figureOf : MethodName := ⟨RX11, "figureOf", "(I)I"⟩
abbrev cX11_adds : ByteArray := prog_13_method_79_code
def yX11_adds : MethodName := ⟨RX11, "adds", "(II)V"⟩
abbrev cX11_valueAt : ByteArray := prog_13_method_80_code
def yX11_valueAt : MethodName := ⟨RX11, "valueAt", "(II)I"⟩
abbrev cX11_character : ByteArray := prog_13_method_81_code
def yX11_character : MethodName := ⟨RX11, "character", "(II)I"⟩
abbrev cX11_byCharacters : ByteArray := prog_13_method_82_code
def yX11_byCharacters : MethodName := ⟨RX11, "byCharacters", "(III)J"⟩
abbrev cX11_areKinds : ByteArray := prog_13_method_83_code
def yX11_areKinds : MethodName := ⟨RX11, "areKinds", "(III)Z"⟩
abbrev cX11_kindOfCode : ByteArray := prog_13_method_84_code
def yX11_kindOfCode : MethodName := ⟨RX11, "kindOfCode", "(I)I"⟩
abbrev cX11_bySearch : ByteArray := prog_13_method_85_code
def yX11_bySearch : MethodName := ⟨RX11, "bySearch", "(IIIZ)J"⟩
abbrev cX11_triples : ByteArray := prog_13_method_86_code
def yX11_triples : MethodName := ⟨RX11, "triples", "(IIII)J"⟩
abbrev cX11_laysClasses : ByteArray := prog_13_method_87_code
def yX11_laysClasses : MethodName := ⟨RX11, "laysClasses", "(III)V"⟩
abbrev cX11_classes : ByteArray := prog_13_method_88_code
def yX11_classes : MethodName := ⟨RX11, "classes", "(IIIII)I"⟩
abbrev cX11_common : ByteArray := prog_13_method_89_code
def yX11_common : MethodName := ⟨RX11, "common", "(JJ)J"⟩
abbrev cX11_mass : ByteArray := prog_13_method_90_code
def yX11_mass : MethodName := ⟨RX11, "mass", "(IIII)J"⟩
abbrev cX11_siblings : ByteArray := prog_13_method_91_code
def yX11_siblings : MethodName := ⟨RX11, "siblings", "()I"⟩
abbrev cX11_genera : ByteArray := prog_13_method_92_code
def yX11_genera : MethodName := ⟨RX11, "genera", "(III)J"⟩
abbrev cX11_thirds : ByteArray := prog_13_method_93_code
def yX11_thirds : MethodName := ⟨RX11, "thirds", "(III)I"⟩
abbrev cX11_joins : ByteArray := prog_13_method_94_code
def yX11_joins : MethodName := ⟨RX11, "joins", "(II)V"⟩
abbrev cX11_family : ByteArray := prog_13_method_95_code
def yX11_family : MethodName := ⟨RX11, "family", "(II)I"⟩
abbrev cX11_count : ByteArray := prog_13_method_96_code
def yX11_count : MethodName := ⟨RX11, "count", "(I)I"⟩
abbrev cX11_letterOf : ByteArray := prog_13_method_97_code
def yX11_letterOf : MethodName := ⟨RX11, "letterOf", "(I)I"⟩
abbrev cX11_readsWord : ByteArray := prog_13_method_98_code
def yX11_readsWord : MethodName := ⟨RX11, "readsWord", "(I)I"⟩
abbrev cX11_walk : ByteArray := prog_13_method_99_code
def yX11_walk : MethodName := ⟨RX11, "walk", "(II)I"⟩
abbrev cX11_made : ByteArray := prog_13_method_100_code
def yX11_made : MethodName := ⟨RX11, "made", "(II)I"⟩
abbrev cX11_power : ByteArray := prog_13_method_101_code
def yX11_power : MethodName := ⟨RX11, "power", "(II)I"⟩
abbrev cX11_powerOf : ByteArray := prog_13_method_102_code
def yX11_powerOf : MethodName := ⟨RX11, "powerOf", "(II)I"⟩
abbrev cX11_roots : ByteArray := prog_13_method_103_code
def yX11_roots : MethodName := ⟨RX11, "roots", "(III)I"⟩
abbrev cX11_reckon : ByteArray := prog_13_method_104_code
def yX11_reckon : MethodName := ⟨RX11, "reckon", "(III)I"⟩
abbrev cX11_way : ByteArray := prog_13_method_105_code
def yX11_way : MethodName := ⟨RX11, "way", "(II)I"⟩
abbrev cX11_steps : ByteArray := prog_13_method_106_code
def yX11_steps : MethodName := ⟨RX11, "steps", "(III)V"⟩
abbrev cX11_cycleSet : ByteArray := prog_13_method_107_code
def yX11_cycleSet : MethodName := ⟨RX11, "cycleSet", "(II)I"⟩
abbrev cX11_meet : ByteArray := prog_13_method_108_code
def yX11_meet : MethodName := ⟨RX11, "meet", "(IIII)I"⟩
abbrev cX11_paste : ByteArray := prog_13_method_109_code
def yX11_paste : MethodName := ⟨RX11, "paste", "()I"⟩
abbrev cX11_piece : ByteArray := prog_13_method_110_code
def yX11_piece : MethodName := ⟨RX11, "piece", "(II)I"⟩
abbrev cX11_take : ByteArray := prog_13_method_111_code
def yX11_take : MethodName := ⟨RX11, "take", "(I)I"⟩
abbrev cX11_keep : ByteArray := prog_13_method_112_code
def yX11_keep : MethodName := ⟨RX11, "keep", "()I"⟩
abbrev cX11_undo : ByteArray := prog_13_method_113_code
def yX11_undo : MethodName := ⟨RX11, "undo", "()I"⟩
def RJ6 : String := "java/lang/Integer"
def TJ6 : u_T := fun k => match k with
  | _ => ("", "", "", false)
def tyJ6 : Nat → FieldType := fun k => match k with
  | _ => .int
abbrev wsJ60 : List Cond := u_ws RJ6 TJ6 0
theorem nmJ6 : ∀ a, a < 0 → ∀ b, b < 0 → a ≠ b → (TJ6 a).2.1 ≠ (TJ6 b).2.1 := by decide +kernel
theorem tyJ6_ok : ∀ k, k < 0 → parseFieldDescriptor (TJ6 k).2.2.1 = some (tyJ6 k) := by decide +kernel
abbrev cJ6_bitCount_0f7a4 : ByteArray := prog_14_method_49_code
def yJ6_bitCount_0f7a4 : MethodName := ⟨RJ6, "bitCount", "(I)I"⟩
def RL : String := "DrawnMapsLaw"
abbrev cL_law : ByteArray := code
def yL_law : MethodName := ⟨RL, "law", "([I)Z"⟩
abbrev vwCl : List vw_C := [(RX0, TX0, 2), (RX1, TX1, 16), (RX2, TX2, 3), (RX3, TX3, 3), (RX4, TX4, 6), (RX7, TX7, 6), (RX8, TX8, 10), (RX9, TX9, 7), (RX10, TX10, 13), (RX11, TX11, 59)]
theorem inX0 : ∀ w ∈ wsX00, w ∈ lw_tbl ∧ goodWord w = true := by decide +kernel
theorem inX1 : ∀ w ∈ wsX10, w ∈ lw_tbl ∧ goodWord w = true := by decide +kernel
theorem inX2 : ∀ w ∈ wsX20, w ∈ lw_tbl ∧ goodWord w = true := by decide +kernel
theorem inX3 : ∀ w ∈ wsX30, w ∈ lw_tbl ∧ goodWord w = true := by decide +kernel
theorem inX4 : ∀ w ∈ wsX40, w ∈ lw_tbl ∧ goodWord w = true := by decide +kernel
theorem inX5 : ∀ w ∈ wsX50, w ∈ lw_tbl ∧ goodWord w = true := by decide +kernel
theorem inX6 : ∀ w ∈ wsX60, w ∈ lw_tbl ∧ goodWord w = true := by decide +kernel
theorem inX7 : ∀ w ∈ wsX70, w ∈ lw_tbl ∧ goodWord w = true := by decide +kernel
theorem inX8 : ∀ w ∈ wsX80, w ∈ lw_tbl ∧ goodWord w = true := by decide +kernel
theorem inX9 : ∀ w ∈ wsX90, w ∈ lw_tbl ∧ goodWord w = true := by decide +kernel
theorem inX10 : ∀ w ∈ wsX100, w ∈ lw_tbl ∧ goodWord w = true := by decide +kernel
theorem inX11 : ∀ w ∈ wsX110, w ∈ lw_tbl ∧ goodWord w = true := by decide +kernel
