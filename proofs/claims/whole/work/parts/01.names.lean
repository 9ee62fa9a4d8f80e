/-- a private method of a class that the tables say can be made, by its rows of tables_1 -/
def lw_okq (q : MethodName × Nat) : Prop := (q.1.cls ≠ "java/lang/invoke/MethodHandle" ∧ q.1.cls ≠ "java/lang/invoke/VarHandle") ∧ Cond.instantiable q.1.cls q.2 ∈ tables_1 ∧ Cond.privateMethod q.1 ∈ tables_1 ∧ Cond.instanceMethod q.1 ∈ tables_1
theorem lw_p0 : lw_okq (⟨"LastJars", "sheetAt", "(I)LLastJars$Sheet;"⟩, 7) := ⟨⟨by decide +kernel, by decide +kernel⟩, List.mem_of_getElem? (i := 19) (by decide +kernel), List.mem_of_getElem? (i := 246) (by decide +kernel), List.mem_of_getElem? (i := 247) (by decide +kernel)⟩
theorem lw_p1 : lw_okq (⟨"LastJars", "refused", "(I)I"⟩, 7) := ⟨⟨by decide +kernel, by decide +kernel⟩, List.mem_of_getElem? (i := 19) (by decide +kernel), List.mem_of_getElem? (i := 253) (by decide +kernel), List.mem_of_getElem? (i := 254) (by decide +kernel)⟩
theorem lw_p2 : lw_okq (⟨"LastJars", "failed", "(I)I"⟩, 7) := ⟨⟨by decide +kernel, by decide +kernel⟩, List.mem_of_getElem? (i := 19) (by decide +kernel), List.mem_of_getElem? (i := 265) (by decide +kernel), List.mem_of_getElem? (i := 266) (by decide +kernel)⟩
theorem lw_p3 : lw_okq (⟨"LastJars$Jar", "greatest", "()I"⟩, 5) := ⟨⟨by decide +kernel, by decide +kernel⟩, List.mem_of_getElem? (i := 36) (by decide +kernel), List.mem_of_getElem? (i := 309) (by decide +kernel), List.mem_of_getElem? (i := 310) (by decide +kernel)⟩
theorem lw_p4 : lw_okq (⟨"LastJars", "changeJar", "(III)I"⟩, 7) := ⟨⟨by decide +kernel, by decide +kernel⟩, List.mem_of_getElem? (i := 19) (by decide +kernel), List.mem_of_getElem? (i := 336) (by decide +kernel), List.mem_of_getElem? (i := 337) (by decide +kernel)⟩
theorem lw_p5 : lw_okq (⟨"LastJars", "changeDecider", "(IIII)I"⟩, 7) := ⟨⟨by decide +kernel, by decide +kernel⟩, List.mem_of_getElem? (i := 19) (by decide +kernel), List.mem_of_getElem? (i := 356) (by decide +kernel), List.mem_of_getElem? (i := 357) (by decide +kernel)⟩
theorem lw_p6 : lw_okq (⟨"LastJars$Sales", "begin", "(LLastJars$Shop;)V"⟩, 5) := ⟨⟨by decide +kernel, by decide +kernel⟩, List.mem_of_getElem? (i := 130) (by decide +kernel), List.mem_of_getElem? (i := 436) (by decide +kernel), List.mem_of_getElem? (i := 437) (by decide +kernel)⟩
theorem lw_p7 : lw_okq (⟨"LastJars$Sales", "emptied", "(LLastJars$Shop;)I"⟩, 5) := ⟨⟨by decide +kernel, by decide +kernel⟩, List.mem_of_getElem? (i := 130) (by decide +kernel), List.mem_of_getElem? (i := 445) (by decide +kernel), List.mem_of_getElem? (i := 446) (by decide +kernel)⟩
theorem lw_p8 : lw_okq (⟨"LastJars$Sales", "halvesThen", "(LLastJars$Shop;I)I"⟩, 5) := ⟨⟨by decide +kernel, by decide +kernel⟩, List.mem_of_getElem? (i := 130) (by decide +kernel), List.mem_of_getElem? (i := 449) (by decide +kernel), List.mem_of_getElem? (i := 450) (by decide +kernel)⟩
theorem lw_p9 : lw_okq (⟨"LastJars$Sales", "purseThen", "(LLastJars$Shop;I)I"⟩, 5) := ⟨⟨by decide +kernel, by decide +kernel⟩, List.mem_of_getElem? (i := 130) (by decide +kernel), List.mem_of_getElem? (i := 453) (by decide +kernel), List.mem_of_getElem? (i := 454) (by decide +kernel)⟩
theorem lw_p10 : lw_okq (⟨"LastJars$Service", "begin", "(LLastJars$Shop;)V"⟩, 2) := ⟨⟨by decide +kernel, by decide +kernel⟩, List.mem_of_getElem? (i := 153) (by decide +kernel), List.mem_of_getElem? (i := 521) (by decide +kernel), List.mem_of_getElem? (i := 522) (by decide +kernel)⟩
theorem lw_p11 : lw_okq (⟨"LastJars$Service", "firstChoice", "(LLastJars$Shop;II)I"⟩, 2) := ⟨⟨by decide +kernel, by decide +kernel⟩, List.mem_of_getElem? (i := 153) (by decide +kernel), List.mem_of_getElem? (i := 536) (by decide +kernel), List.mem_of_getElem? (i := 537) (by decide +kernel)⟩
theorem lw_p12 : lw_okq (⟨"LastJars", "possible", "(III)I"⟩, 7) := ⟨⟨by decide +kernel, by decide +kernel⟩, List.mem_of_getElem? (i := 19) (by decide +kernel), List.mem_of_getElem? (i := 569) (by decide +kernel), List.mem_of_getElem? (i := 570) (by decide +kernel)⟩
theorem lw_p13 : lw_okq (⟨"LastJars$Sheet", "cut", "(I)I"⟩, 4) := ⟨⟨by decide +kernel, by decide +kernel⟩, List.mem_of_getElem? (i := 198) (by decide +kernel), List.mem_of_getElem? (i := 624) (by decide +kernel), List.mem_of_getElem? (i := 625) (by decide +kernel)⟩
theorem lw_p14 : lw_okq (⟨"LastJars$Teller", "leave", "(I)V"⟩, 1) := ⟨⟨by decide +kernel, by decide +kernel⟩, List.mem_of_getElem? (i := 186) (by decide +kernel), List.mem_of_getElem? (i := 649) (by decide +kernel), List.mem_of_getElem? (i := 650) (by decide +kernel)⟩
theorem lw_p15 : lw_okq (⟨"LastJarsModel", "refused", "(I)I"⟩, 36) := ⟨⟨by decide +kernel, by decide +kernel⟩, List.mem_of_getElem? (i := 695) (by decide +kernel), List.mem_of_getElem? (i := 821) (by decide +kernel), List.mem_of_getElem? (i := 822) (by decide +kernel)⟩
def lw_privs_1 : List (MethodName × Nat) := [(⟨"LastJars", "sheetAt", "(I)LLastJars$Sheet;"⟩, 7), (⟨"LastJars", "refused", "(I)I"⟩, 7), (⟨"LastJars", "failed", "(I)I"⟩, 7), (⟨"LastJars$Jar", "greatest", "()I"⟩, 5), (⟨"LastJars", "changeJar", "(III)I"⟩, 7), (⟨"LastJars", "changeDecider", "(IIII)I"⟩, 7), (⟨"LastJars$Sales", "begin", "(LLastJars$Shop;)V"⟩, 5), (⟨"LastJars$Sales", "emptied", "(LLastJars$Shop;)I"⟩, 5), (⟨"LastJars$Sales", "halvesThen", "(LLastJars$Shop;I)I"⟩, 5), (⟨"LastJars$Sales", "purseThen", "(LLastJars$Shop;I)I"⟩, 5), (⟨"LastJars$Service", "begin", "(LLastJars$Shop;)V"⟩, 2), (⟨"LastJars$Service", "firstChoice", "(LLastJars$Shop;II)I"⟩, 2), (⟨"LastJars", "possible", "(III)I"⟩, 7), (⟨"LastJars$Sheet", "cut", "(I)I"⟩, 4), (⟨"LastJars$Teller", "leave", "(I)V"⟩, 1), (⟨"LastJarsModel", "refused", "(I)I"⟩, 36)]
theorem lw_r1 : ∀ q ∈ lw_privs_1, lw_okq q := List.forall_mem_cons.mpr ⟨lw_p0, List.forall_mem_cons.mpr ⟨lw_p1, List.forall_mem_cons.mpr ⟨lw_p2, List.forall_mem_cons.mpr ⟨lw_p3, List.forall_mem_cons.mpr ⟨lw_p4, List.forall_mem_cons.mpr ⟨lw_p5, List.forall_mem_cons.mpr ⟨lw_p6, List.forall_mem_cons.mpr ⟨lw_p7, List.forall_mem_cons.mpr ⟨lw_p8, List.forall_mem_cons.mpr ⟨lw_p9, List.forall_mem_cons.mpr ⟨lw_p10, List.forall_mem_cons.mpr ⟨lw_p11, List.forall_mem_cons.mpr ⟨lw_p12, List.forall_mem_cons.mpr ⟨lw_p13, List.forall_mem_cons.mpr ⟨lw_p14, List.forall_mem_cons.mpr ⟨lw_p15, fun _ h => absurd h List.not_mem_nil⟩⟩⟩⟩⟩⟩⟩⟩⟩⟩⟩⟩⟩⟩⟩⟩
theorem lw_p16 : lw_okq (⟨"LastJarsModel", "cellsBarred", "(IIIJ)I"⟩, 36) := ⟨⟨by decide +kernel, by decide +kernel⟩, List.mem_of_getElem? (i := 695) (by decide +kernel), List.mem_of_getElem? (i := 826) (by decide +kernel), List.mem_of_getElem? (i := 827) (by decide +kernel)⟩
theorem lw_p17 : lw_okq (⟨"LastJarsModel", "failed", "(I)I"⟩, 36) := ⟨⟨by decide +kernel, by decide +kernel⟩, List.mem_of_getElem? (i := 695) (by decide +kernel), List.mem_of_getElem? (i := 830) (by decide +kernel), List.mem_of_getElem? (i := 831) (by decide +kernel)⟩
theorem lw_p18 : lw_okq (⟨"LastJarsModel", "readsStore", "(II)Z"⟩, 36) := ⟨⟨by decide +kernel, by decide +kernel⟩, List.mem_of_getElem? (i := 695) (by decide +kernel), List.mem_of_getElem? (i := 837) (by decide +kernel), List.mem_of_getElem? (i := 838) (by decide +kernel)⟩
theorem lw_p19 : lw_okq (⟨"LastJarsModel", "codeAt", "(II)I"⟩, 36) := ⟨⟨by decide +kernel, by decide +kernel⟩, List.mem_of_getElem? (i := 695) (by decide +kernel), List.mem_of_getElem? (i := 841) (by decide +kernel), List.mem_of_getElem? (i := 842) (by decide +kernel)⟩
theorem lw_p20 : lw_okq (⟨"LastJarsModel", "readsJar", "(II)Z"⟩, 36) := ⟨⟨by decide +kernel, by decide +kernel⟩, List.mem_of_getElem? (i := 695) (by decide +kernel), List.mem_of_getElem? (i := 845) (by decide +kernel), List.mem_of_getElem? (i := 846) (by decide +kernel)⟩
theorem lw_p21 : lw_okq (⟨"LastJarsModel", "figure", "(III)I"⟩, 36) := ⟨⟨by decide +kernel, by decide +kernel⟩, List.mem_of_getElem? (i := 695) (by decide +kernel), List.mem_of_getElem? (i := 849) (by decide +kernel), List.mem_of_getElem? (i := 850) (by decide +kernel)⟩
theorem lw_p22 : lw_okq (⟨"LastJarsModel", "readsDecider", "(II)Z"⟩, 36) := ⟨⟨by decide +kernel, by decide +kernel⟩, List.mem_of_getElem? (i := 695) (by decide +kernel), List.mem_of_getElem? (i := 854) (by decide +kernel), List.mem_of_getElem? (i := 855) (by decide +kernel)⟩
theorem lw_p23 : lw_okq (⟨"LastJarsModel", "noJar", "(I)Z"⟩, 36) := ⟨⟨by decide +kernel, by decide +kernel⟩, List.mem_of_getElem? (i := 695) (by decide +kernel), List.mem_of_getElem? (i := 862) (by decide +kernel), List.mem_of_getElem? (i := 863) (by decide +kernel)⟩
theorem lw_p24 : lw_okq (⟨"LastJarsModel", "greatestMark", "(I)I"⟩, 36) := ⟨⟨by decide +kernel, by decide +kernel⟩, List.mem_of_getElem? (i := 695) (by decide +kernel), List.mem_of_getElem? (i := 866) (by decide +kernel), List.mem_of_getElem? (i := 867) (by decide +kernel)⟩
theorem lw_p25 : lw_okq (⟨"LastJarsModel", "markOf", "(II)I"⟩, 36) := ⟨⟨by decide +kernel, by decide +kernel⟩, List.mem_of_getElem? (i := 695) (by decide +kernel), List.mem_of_getElem? (i := 870) (by decide +kernel), List.mem_of_getElem? (i := 871) (by decide +kernel)⟩
theorem lw_p26 : lw_okq (⟨"LastJarsModel", "leafMark", "(II)I"⟩, 36) := ⟨⟨by decide +kernel, by decide +kernel⟩, List.mem_of_getElem? (i := 695) (by decide +kernel), List.mem_of_getElem? (i := 874) (by decide +kernel), List.mem_of_getElem? (i := 875) (by decide +kernel)⟩
theorem lw_p27 : lw_okq (⟨"LastJarsModel", "noDecider", "(I)Z"⟩, 36) := ⟨⟨by decide +kernel, by decide +kernel⟩, List.mem_of_getElem? (i := 695) (by decide +kernel), List.mem_of_getElem? (i := 882) (by decide +kernel), List.mem_of_getElem? (i := 883) (by decide +kernel)⟩
theorem lw_p28 : lw_okq (⟨"LastJarsModel", "noBlend", "(I)Z"⟩, 36) := ⟨⟨by decide +kernel, by decide +kernel⟩, List.mem_of_getElem? (i := 695) (by decide +kernel), List.mem_of_getElem? (i := 915) (by decide +kernel), List.mem_of_getElem? (i := 916) (by decide +kernel)⟩
theorem lw_p29 : lw_okq (⟨"LastJarsModel", "blendOf", "(II)I"⟩, 36) := ⟨⟨by decide +kernel, by decide +kernel⟩, List.mem_of_getElem? (i := 695) (by decide +kernel), List.mem_of_getElem? (i := 919) (by decide +kernel), List.mem_of_getElem? (i := 920) (by decide +kernel)⟩
theorem lw_p30 : lw_okq (⟨"LastJarsModel", "canSell", "(II)Z"⟩, 36) := ⟨⟨by decide +kernel, by decide +kernel⟩, List.mem_of_getElem? (i := 695) (by decide +kernel), List.mem_of_getElem? (i := 937) (by decide +kernel), List.mem_of_getElem? (i := 938) (by decide +kernel)⟩
theorem lw_p31 : lw_okq (⟨"LastJarsModel", "sold", "(II)I"⟩, 36) := ⟨⟨by decide +kernel, by decide +kernel⟩, List.mem_of_getElem? (i := 695) (by decide +kernel), List.mem_of_getElem? (i := 941) (by decide +kernel), List.mem_of_getElem? (i := 942) (by decide +kernel)⟩
def lw_privs_2 : List (MethodName × Nat) := [(⟨"LastJarsModel", "cellsBarred", "(IIIJ)I"⟩, 36), (⟨"LastJarsModel", "failed", "(I)I"⟩, 36), (⟨"LastJarsModel", "readsStore", "(II)Z"⟩, 36), (⟨"LastJarsModel", "codeAt", "(II)I"⟩, 36), (⟨"LastJarsModel", "readsJar", "(II)Z"⟩, 36), (⟨"LastJarsModel", "figure", "(III)I"⟩, 36), (⟨"LastJarsModel", "readsDecider", "(II)Z"⟩, 36), (⟨"LastJarsModel", "noJar", "(I)Z"⟩, 36), (⟨"LastJarsModel", "greatestMark", "(I)I"⟩, 36), (⟨"LastJarsModel", "markOf", "(II)I"⟩, 36), (⟨"LastJarsModel", "leafMark", "(II)I"⟩, 36), (⟨"LastJarsModel", "noDecider", "(I)Z"⟩, 36), (⟨"LastJarsModel", "noBlend", "(I)Z"⟩, 36), (⟨"LastJarsModel", "blendOf", "(II)I"⟩, 36), (⟨"LastJarsModel", "canSell", "(II)Z"⟩, 36), (⟨"LastJarsModel", "sold", "(II)I"⟩, 36)]
theorem lw_r2 : ∀ q ∈ lw_privs_2, lw_okq q := List.forall_mem_cons.mpr ⟨lw_p16, List.forall_mem_cons.mpr ⟨lw_p17, List.forall_mem_cons.mpr ⟨lw_p18, List.forall_mem_cons.mpr ⟨lw_p19, List.forall_mem_cons.mpr ⟨lw_p20, List.forall_mem_cons.mpr ⟨lw_p21, List.forall_mem_cons.mpr ⟨lw_p22, List.forall_mem_cons.mpr ⟨lw_p23, List.forall_mem_cons.mpr ⟨lw_p24, List.forall_mem_cons.mpr ⟨lw_p25, List.forall_mem_cons.mpr ⟨lw_p26, List.forall_mem_cons.mpr ⟨lw_p27, List.forall_mem_cons.mpr ⟨lw_p28, List.forall_mem_cons.mpr ⟨lw_p29, List.forall_mem_cons.mpr ⟨lw_p30, List.forall_mem_cons.mpr ⟨lw_p31, fun _ h => absurd h List.not_mem_nil⟩⟩⟩⟩⟩⟩⟩⟩⟩⟩⟩⟩⟩⟩⟩⟩
theorem lw_p32 : lw_okq (⟨"LastJarsModel", "decides", "(II)Z"⟩, 36) := ⟨⟨by decide +kernel, by decide +kernel⟩, List.mem_of_getElem? (i := 695) (by decide +kernel), List.mem_of_getElem? (i := 945) (by decide +kernel), List.mem_of_getElem? (i := 946) (by decide +kernel)⟩
theorem lw_p33 : lw_okq (⟨"LastJarsModel", "arePairs", "(II)Z"⟩, 36) := ⟨⟨by decide +kernel, by decide +kernel⟩, List.mem_of_getElem? (i := 695) (by decide +kernel), List.mem_of_getElem? (i := 957) (by decide +kernel), List.mem_of_getElem? (i := 958) (by decide +kernel)⟩
theorem lw_p34 : lw_okq (⟨"LastJarsModel", "yearBy", "(III)I"⟩, 36) := ⟨⟨by decide +kernel, by decide +kernel⟩, List.mem_of_getElem? (i := 695) (by decide +kernel), List.mem_of_getElem? (i := 961) (by decide +kernel), List.mem_of_getElem? (i := 962) (by decide +kernel)⟩
theorem lw_p35 : lw_okq (⟨"LastJarsModel", "leftNow", "()I"⟩, 36) := ⟨⟨by decide +kernel, by decide +kernel⟩, List.mem_of_getElem? (i := 695) (by decide +kernel), List.mem_of_getElem? (i := 969) (by decide +kernel), List.mem_of_getElem? (i := 970) (by decide +kernel)⟩
theorem lw_p36 : lw_okq (⟨"LastJarsModel", "pricesOf", "(I)I"⟩, 36) := ⟨⟨by decide +kernel, by decide +kernel⟩, List.mem_of_getElem? (i := 695) (by decide +kernel), List.mem_of_getElem? (i := 973) (by decide +kernel), List.mem_of_getElem? (i := 974) (by decide +kernel)⟩
theorem lw_p37 : lw_okq (⟨"LastJarsModel", "isRather", "(II)Z"⟩, 36) := ⟨⟨by decide +kernel, by decide +kernel⟩, List.mem_of_getElem? (i := 695) (by decide +kernel), List.mem_of_getElem? (i := 977) (by decide +kernel), List.mem_of_getElem? (i := 978) (by decide +kernel)⟩
theorem lw_p38 : lw_okq (⟨"LastJarsModel", "areLike", "(II)Z"⟩, 36) := ⟨⟨by decide +kernel, by decide +kernel⟩, List.mem_of_getElem? (i := 695) (by decide +kernel), List.mem_of_getElem? (i := 985) (by decide +kernel), List.mem_of_getElem? (i := 986) (by decide +kernel)⟩
theorem lw_p39 : lw_okq (⟨"LastJarsModel", "guessBy", "(III)I"⟩, 36) := ⟨⟨by decide +kernel, by decide +kernel⟩, List.mem_of_getElem? (i := 695) (by decide +kernel), List.mem_of_getElem? (i := 993) (by decide +kernel), List.mem_of_getElem? (i := 994) (by decide +kernel)⟩
theorem lw_p40 : lw_okq (⟨"LastJarsModel", "isTold", "(III)Z"⟩, 36) := ⟨⟨by decide +kernel, by decide +kernel⟩, List.mem_of_getElem? (i := 695) (by decide +kernel), List.mem_of_getElem? (i := 997) (by decide +kernel), List.mem_of_getElem? (i := 998) (by decide +kernel)⟩
theorem lw_p41 : lw_okq (⟨"LastJarsModel", "mostServed", "()I"⟩, 36) := ⟨⟨by decide +kernel, by decide +kernel⟩, List.mem_of_getElem? (i := 695) (by decide +kernel), List.mem_of_getElem? (i := 1006) (by decide +kernel), List.mem_of_getElem? (i := 1007) (by decide +kernel)⟩
theorem lw_p42 : lw_okq (⟨"LastJarsModel", "decideBy", "(II)I"⟩, 36) := ⟨⟨by decide +kernel, by decide +kernel⟩, List.mem_of_getElem? (i := 695) (by decide +kernel), List.mem_of_getElem? (i := 1010) (by decide +kernel), List.mem_of_getElem? (i := 1011) (by decide +kernel)⟩
theorem lw_p43 : lw_okq (⟨"LastJarsModel", "areSo", "()Z"⟩, 36) := ⟨⟨by decide +kernel, by decide +kernel⟩, List.mem_of_getElem? (i := 695) (by decide +kernel), List.mem_of_getElem? (i := 1030) (by decide +kernel), List.mem_of_getElem? (i := 1031) (by decide +kernel)⟩
theorem lw_p44 : lw_okq (⟨"LastJarsModel", "noCell", "(II)I"⟩, 36) := ⟨⟨by decide +kernel, by decide +kernel⟩, List.mem_of_getElem? (i := 695) (by decide +kernel), List.mem_of_getElem? (i := 1065) (by decide +kernel), List.mem_of_getElem? (i := 1066) (by decide +kernel)⟩
theorem lw_p45 : lw_okq (⟨"LastJarsModel", "failedLong", "(I)J"⟩, 36) := ⟨⟨by decide +kernel, by decide +kernel⟩, List.mem_of_getElem? (i := 695) (by decide +kernel), List.mem_of_getElem? (i := 1073) (by decide +kernel), List.mem_of_getElem? (i := 1074) (by decide +kernel)⟩
theorem lw_p46 : lw_okq (⟨"LastJarsModel", "traced", "(I)V"⟩, 36) := ⟨⟨by decide +kernel, by decide +kernel⟩, List.mem_of_getElem? (i := 695) (by decide +kernel), List.mem_of_getElem? (i := 1085) (by decide +kernel), List.mem_of_getElem? (i := 1086) (by decide +kernel)⟩
theorem lw_p47 : lw_okq (⟨"LastJarsModel", "allHalves", "()I"⟩, 36) := ⟨⟨by decide +kernel, by decide +kernel⟩, List.mem_of_getElem? (i := 695) (by decide +kernel), List.mem_of_getElem? (i := 1109) (by decide +kernel), List.mem_of_getElem? (i := 1110) (by decide +kernel)⟩
def lw_privs_3 : List (MethodName × Nat) := [(⟨"LastJarsModel", "decides", "(II)Z"⟩, 36), (⟨"LastJarsModel", "arePairs", "(II)Z"⟩, 36), (⟨"LastJarsModel", "yearBy", "(III)I"⟩, 36), (⟨"LastJarsModel", "leftNow", "()I"⟩, 36), (⟨"LastJarsModel", "pricesOf", "(I)I"⟩, 36), (⟨"LastJarsModel", "isRather", "(II)Z"⟩, 36), (⟨"LastJarsModel", "areLike", "(II)Z"⟩, 36), (⟨"LastJarsModel", "guessBy", "(III)I"⟩, 36), (⟨"LastJarsModel", "isTold", "(III)Z"⟩, 36), (⟨"LastJarsModel", "mostServed", "()I"⟩, 36), (⟨"LastJarsModel", "decideBy", "(II)I"⟩, 36), (⟨"LastJarsModel", "areSo", "()Z"⟩, 36), (⟨"LastJarsModel", "noCell", "(II)I"⟩, 36), (⟨"LastJarsModel", "failedLong", "(I)J"⟩, 36), (⟨"LastJarsModel", "traced", "(I)V"⟩, 36), (⟨"LastJarsModel", "allHalves", "()I"⟩, 36)]
theorem lw_r3 : ∀ q ∈ lw_privs_3, lw_okq q := List.forall_mem_cons.mpr ⟨lw_p32, List.forall_mem_cons.mpr ⟨lw_p33, List.forall_mem_cons.mpr ⟨lw_p34, List.forall_mem_cons.mpr ⟨lw_p35, List.forall_mem_cons.mpr ⟨lw_p36, List.forall_mem_cons.mpr ⟨lw_p37, List.forall_mem_cons.mpr ⟨lw_p38, List.forall_mem_cons.mpr ⟨lw_p39, List.forall_mem_cons.mpr ⟨lw_p40, List.forall_mem_cons.mpr ⟨lw_p41, List.forall_mem_cons.mpr ⟨lw_p42, List.forall_mem_cons.mpr ⟨lw_p43, List.forall_mem_cons.mpr ⟨lw_p44, List.forall_mem_cons.mpr ⟨lw_p45, List.forall_mem_cons.mpr ⟨lw_p46, List.forall_mem_cons.mpr ⟨lw_p47, fun _ h => absurd h List.not_mem_nil⟩⟩⟩⟩⟩⟩⟩⟩⟩⟩⟩⟩⟩⟩⟩⟩
def lw_privs : List (MethodName × Nat) := lw_privs_1 ++ (lw_privs_2 ++ (lw_privs_3))
def lw_tbl : List Cond := k2_sels lw_privs ++ tables_1
theorem lw_privs_ok : ∀ q ∈ lw_privs, lw_okq q := by
  show ∀ q ∈ lw_privs_1 ++ (lw_privs_2 ++ (lw_privs_3)), lw_okq q
  exact List.forall_mem_append.mpr ⟨lw_r1, List.forall_mem_append.mpr ⟨lw_r2, lw_r3⟩⟩
def GW : List Cond := lw_tbl.filter goodWord
theorem inGW {i : Nat} {w : Cond} (h : lw_tbl[i]? = some w) (g : goodWord w = true) : w ∈ GW := List.mem_filter.mpr ⟨List.mem_of_getElem? h, g⟩
theorem inGWs (ws : List Cond) (is : List Nat) (h : ws.map some = is.map (fun i => lw_tbl[i]?)) (g : ws.all goodWord = true) : ∀ w ∈ ws, w ∈ GW := by
  intro w hw
  have h1 : some w ∈ ws.map some := List.mem_map.mpr ⟨w, hw, rfl⟩
  rw [h] at h1
  obtain ⟨i, -, hi⟩ := List.mem_map.mp h1
  exact inGW hi (List.all_eq_true.mp g w hw)
theorem GW_good : GoodIn GW GW := fun w hw => ⟨hw, good_of_word (List.mem_filter.mp hw).2⟩
theorem GW_sub : ∀ w ∈ GW, w ∈ lw_tbl := fun w hw => (List.mem_filter.mp hw).1
def T_De : u_T := fun k => match k with
  | 0 => ("LastJars$Decider", "need", "I", false)
  | 1 => ("LastJars$Decider", "when", "I", false)
  | 2 => ("LastJars$Decider", "purse", "I", false)
  | _ => ("LastJars$Decider", "decided", "I", false)
def ty_De : Nat → FieldType := fun k => match k with
  | 0 => .int
  | 1 => .int
  | 2 => .int
  | _ => .int
theorem in_De : ∀ w ∈ u_ws "LastJars$Decider" T_De 4, w ∈ GW := inGWs _ [140, 142, 144, 146] (by decide +kernel) (by decide +kernel)
theorem tyok_De : ∀ k, k < 4 → parseFieldDescriptor (T_De k).2.2.1 = some (ty_De k) := by decide +kernel
theorem nm_De : ∀ a, a < 4 → ∀ b, b < 4 → a ≠ b → (T_De a).2.1 ≠ (T_De b).2.1 := by decide +kernel
def T_Ja : u_T := fun k => match k with
  | 0 => ("LastJars$Jar", "kind", "I", false)
  | 1 => ("LastJars$Jar", "sure", "I", false)
  | 2 => ("LastJars$Jar", "fade", "I", false)
  | 3 => ("LastJars$Jar", "halves", "I", false)
  | _ => ("LastJars$Jar", "price", "I", false)
def ty_Ja : Nat → FieldType := fun k => match k with
  | 0 => .int
  | 1 => .int
  | 2 => .int
  | 3 => .int
  | _ => .int
theorem in_Ja : ∀ w ∈ u_ws "LastJars$Jar" T_Ja 5, w ∈ GW := inGWs _ [109, 111, 113, 115, 117] (by decide +kernel) (by decide +kernel)
theorem tyok_Ja : ∀ k, k < 5 → parseFieldDescriptor (T_Ja k).2.2.1 = some (ty_Ja k) := by decide +kernel
theorem nm_Ja : ∀ a, a < 5 → ∀ b, b < 5 → a ≠ b → (T_Ja a).2.1 ≠ (T_Ja b).2.1 := by decide +kernel
def T_Re : u_T := fun k => match k with
  | 0 => ("LastJars$Readings", "jars", "[I", true)
  | 1 => ("LastJars$Readings", "minutes", "[I", true)
  | 2 => ("LastJars$Readings", "marks", "[I", true)
  | _ => ("LastJars$Readings", "count", "I", false)
def ty_Re : Nat → FieldType := fun k => match k with
  | 0 => .array .int
  | 1 => .array .int
  | 2 => .array .int
  | _ => .int
theorem in_Re : ∀ w ∈ u_ws "LastJars$Readings" T_Re 4, w ∈ GW := inGWs _ [224, 226, 228, 230] (by decide +kernel) (by decide +kernel)
theorem tyok_Re : ∀ k, k < 4 → parseFieldDescriptor (T_Re k).2.2.1 = some (ty_Re k) := by decide +kernel
theorem nm_Re : ∀ a, a < 4 → ∀ b, b < 4 → a ≠ b → (T_Re a).2.1 ≠ (T_Re b).2.1 := by decide +kernel
def T_Sa : u_T := fun k => match k with
  | 0 => ("LastJars$Sales", "halves", "[I", true)
  | 1 => ("LastJars$Sales", "purses", "[I", true)
  | 2 => ("LastJars$Sales", "firstWrong", "I", false)
  | 3 => ("LastJars$Sales", "decided", "I", false)
  | _ => ("LastJars$Sales", "pence", "I", false)
def ty_Sa : Nat → FieldType := fun k => match k with
  | 0 => .array .int
  | 1 => .array .int
  | 2 => .int
  | 3 => .int
  | _ => .int
theorem in_Sa : ∀ w ∈ u_ws "LastJars$Sales" T_Sa 5, w ∈ GW := inGWs _ [188, 190, 192, 194, 196] (by decide +kernel) (by decide +kernel)
theorem tyok_Sa : ∀ k, k < 5 → parseFieldDescriptor (T_Sa k).2.2.1 = some (ty_Sa k) := by decide +kernel
theorem nm_Sa : ∀ a, a < 5 → ∀ b, b < 5 → a ≠ b → (T_Sa a).2.1 ≠ (T_Sa b).2.1 := by decide +kernel
def T_Se : u_T := fun k => match k with
  | 0 => ("LastJars$Service", "left", "[I", true)
  | _ => ("LastJars$Service", "chosen", "[I", true)
def ty_Se : Nat → FieldType := fun k => match k with
  | 0 => .array .int
  | _ => .array .int
theorem in_Se : ∀ w ∈ u_ws "LastJars$Service" T_Se 2, w ∈ GW := inGWs _ [208, 210] (by decide +kernel) (by decide +kernel)
theorem tyok_Se : ∀ k, k < 2 → parseFieldDescriptor (T_Se k).2.2.1 = some (ty_Se k) := by decide +kernel
theorem nm_Se : ∀ a, a < 2 → ∀ b, b < 2 → a ≠ b → (T_Se a).2.1 ≠ (T_Se b).2.1 := by decide +kernel
def T_Sh : u_T := fun k => match k with
  | 0 => ("LastJars$Sheet", "cells", "[I", true)
  | 1 => ("LastJars$Sheet", "hasRow", "Z", false)
  | 2 => ("LastJars$Sheet", "lane", "I", false)
  | _ => ("LastJars$Sheet", "length", "I", false)
def ty_Sh : Nat → FieldType := fun k => match k with
  | 0 => .array .int
  | 1 => .boolean
  | 2 => .int
  | _ => .int
theorem in_Sh : ∀ w ∈ u_ws "LastJars$Sheet" T_Sh 4, w ∈ GW := inGWs _ [258, 260, 262, 264] (by decide +kernel) (by decide +kernel)
theorem tyok_Sh : ∀ k, k < 4 → parseFieldDescriptor (T_Sh k).2.2.1 = some (ty_Sh k) := by decide +kernel
theorem nm_Sh : ∀ a, a < 4 → ∀ b, b < 4 → a ≠ b → (T_Sh a).2.1 ≠ (T_Sh b).2.1 := by decide +kernel
def T_Sp : u_T := fun k => match k with
  | 0 => ("LastJars$Shop", "jars", "[LLastJars$Jar;", true)
  | 1 => ("LastJars$Shop", "deciders", "[LLastJars$Decider;", true)
  | 2 => ("LastJars$Shop", "jarCount", "I", false)
  | _ => ("LastJars$Shop", "deciderCount", "I", false)
def ty_Sp : Nat → FieldType := fun k => match k with
  | 0 => .array (.object "LastJars$Jar")
  | 1 => .array (.object "LastJars$Decider")
  | 2 => .int
  | _ => .int
theorem in_Sp : ∀ w ∈ u_ws "LastJars$Shop" T_Sp 4, w ∈ GW := inGWs _ [168, 170, 172, 174] (by decide +kernel) (by decide +kernel)
theorem tyok_Sp : ∀ k, k < 4 → parseFieldDescriptor (T_Sp k).2.2.1 = some (ty_Sp k) := by decide +kernel
theorem nm_Sp : ∀ a, a < 4 → ∀ b, b < 4 → a ≠ b → (T_Sp a).2.1 ≠ (T_Sp b).2.1 := by decide +kernel
def T_Te : u_T := fun k => match k with
  | _ => ("LastJars$Teller", "left", "I", false)
def ty_Te : Nat → FieldType := fun k => match k with
  | _ => .int
theorem in_Te : ∀ w ∈ u_ws "LastJars$Teller" T_Te 1, w ∈ GW := inGWs _ [241] (by decide +kernel) (by decide +kernel)
theorem tyok_Te : ∀ k, k < 1 → parseFieldDescriptor (T_Te k).2.2.1 = some (ty_Te k) := by decide +kernel
theorem nm_Te : ∀ a, a < 1 → ∀ b, b < 1 → a ≠ b → (T_Te a).2.1 ≠ (T_Te b).2.1 := by decide +kernel
def T_LJ : u_T := fun k => match k with
  | 0 => ("LastJars", "shop", "LLastJars$Shop;", true)
  | 1 => ("LastJars", "sales", "LLastJars$Sales;", true)
  | 2 => ("LastJars", "service", "LLastJars$Service;", true)
  | 3 => ("LastJars", "readings", "LLastJars$Readings;", true)
  | 4 => ("LastJars", "teller", "LLastJars$Teller;", true)
  | 5 => ("LastJars", "sheets", "[LLastJars$Sheet;", true)
  | _ => ("LastJars", "latestFault", "I", false)
def ty_LJ : Nat → FieldType := fun k => match k with
  | 0 => .object "LastJars$Shop"
  | 1 => .object "LastJars$Sales"
  | 2 => .object "LastJars$Service"
  | 3 => .object "LastJars$Readings"
  | 4 => .object "LastJars$Teller"
  | 5 => .array (.object "LastJars$Sheet")
  | _ => .int
theorem in_LJ : ∀ w ∈ u_ws "LastJars" T_LJ 7, w ∈ GW := inGWs _ [274, 276, 278, 280, 282, 284, 286] (by decide +kernel) (by decide +kernel)
theorem tyok_LJ : ∀ k, k < 7 → parseFieldDescriptor (T_LJ k).2.2.1 = some (ty_LJ k) := by decide +kernel
theorem nm_LJ : ∀ a, a < 7 → ∀ b, b < 7 → a ≠ b → (T_LJ a).2.1 ≠ (T_LJ b).2.1 := by decide +kernel
def T_Mo : u_T := fun k => match k with
  | 0 => ("LastJarsModel", "fault", "I", false)
  | 1 => ("LastJarsModel", "jars", "I", false)
  | 2 => ("LastJarsModel", "kindOf", "[I", true)
  | 3 => ("LastJarsModel", "sureOf", "[I", true)
  | 4 => ("LastJarsModel", "fadeOf", "[I", true)
  | 5 => ("LastJarsModel", "halvesOf", "[I", true)
  | 6 => ("LastJarsModel", "priceOf", "[I", true)
  | 7 => ("LastJarsModel", "deciders", "I", false)
  | 8 => ("LastJarsModel", "needOf", "[I", true)
  | 9 => ("LastJarsModel", "whenOf", "[I", true)
  | 10 => ("LastJarsModel", "purseOf", "[I", true)
  | 11 => ("LastJarsModel", "decidedBy", "[I", true)
  | 12 => ("LastJarsModel", "readAt", "I", false)
  | 13 => ("LastJarsModel", "readJars", "I", false)
  | 14 => ("LastJarsModel", "readDeciders", "I", false)
  | 15 => ("LastJarsModel", "readKind", "[I", true)
  | 16 => ("LastJarsModel", "readSure", "[I", true)
  | 17 => ("LastJarsModel", "readFade", "[I", true)
  | 18 => ("LastJarsModel", "readHalves", "[I", true)
  | 19 => ("LastJarsModel", "readPrice", "[I", true)
  | 20 => ("LastJarsModel", "readNeed", "[I", true)
  | 21 => ("LastJarsModel", "readWhen", "[I", true)
  | 22 => ("LastJarsModel", "readPurse", "[I", true)
  | 23 => ("LastJarsModel", "halvesKept", "[I", true)
  | 24 => ("LastJarsModel", "purseKept", "[I", true)
  | 25 => ("LastJarsModel", "takenOf", "[I", true)
  | 26 => ("LastJarsModel", "servedRow", "I", false)
  | 27 => ("LastJarsModel", "readings", "I", false)
  | 28 => ("LastJarsModel", "readingOf", "[I", true)
  | 29 => ("LastJarsModel", "readingOn", "[I", true)
  | 30 => ("LastJarsModel", "readingWas", "[I", true)
  | 31 => ("LastJarsModel", "sheetSize", "[I", true)
  | 32 => ("LastJarsModel", "sheetLane", "[I", true)
  | 33 => ("LastJarsModel", "sheet", "[I", true)
  | 34 => ("LastJarsModel", "hands", "[I", true)
  | _ => ("LastJarsModel", "traceNow", "I", false)
def ty_Mo : Nat → FieldType := fun k => match k with
  | 0 => .int
  | 1 => .int
  | 2 => .array .int
  | 3 => .array .int
  | 4 => .array .int
  | 5 => .array .int
  | 6 => .array .int
  | 7 => .int
  | 8 => .array .int
  | 9 => .array .int
  | 10 => .array .int
  | 11 => .array .int
  | 12 => .int
  | 13 => .int
  | 14 => .int
  | 15 => .array .int
  | 16 => .array .int
  | 17 => .array .int
  | 18 => .array .int
  | 19 => .array .int
  | 20 => .array .int
  | 21 => .array .int
  | 22 => .array .int
  | 23 => .array .int
  | 24 => .array .int
  | 25 => .array .int
  | 26 => .int
  | 27 => .int
  | 28 => .array .int
  | 29 => .array .int
  | 30 => .array .int
  | 31 => .array .int
  | 32 => .array .int
  | 33 => .array .int
  | 34 => .array .int
  | _ => .int
theorem in_Mo : ∀ w ∈ u_ws "LastJarsModel" T_Mo 36, w ∈ GW := inGWs _ [784, 786, 788, 790, 792, 794, 796, 798, 800, 802, 804, 806, 808, 810, 812, 814, 816, 818, 820, 822, 824, 826, 828, 830, 832, 834, 836, 838, 840, 842, 844, 846, 848, 850, 852, 854] (by decide +kernel) (by decide +kernel)
theorem tyok_Mo : ∀ k, k < 36 → parseFieldDescriptor (T_Mo k).2.2.1 = some (ty_Mo k) := by decide +kernel
theorem nm_Mo : ∀ a, a < 36 → ∀ b, b < 36 → a ≠ b → (T_Mo a).2.1 ≠ (T_Mo b).2.1 := by decide +kernel
abbrev CL : List vw_C := [("LastJars$Decider", T_De, 4), ("LastJars$Jar", T_Ja, 5), ("LastJars$Readings", T_Re, 4), ("LastJars$Sales", T_Sa, 5), ("LastJars$Service", T_Se, 2), ("LastJars$Sheet", T_Sh, 4), ("LastJars$Shop", T_Sp, 4), ("LastJars$Teller", T_Te, 1), ("LastJars", T_LJ, 7), ("LastJarsModel", T_Mo, 36)]
def tyF (ci : Nat) : Nat → FieldType := match ci with
  | 0 => ty_De
  | 1 => ty_Ja
  | 2 => ty_Re
  | 3 => ty_Sa
  | 4 => ty_Se
  | 5 => ty_Sh
  | 6 => ty_Sp
  | 7 => ty_Te
  | 8 => ty_LJ
  | _ => ty_Mo
def CLok (ci : Nat) (q : vw_C) : Prop := (∀ w ∈ u_ws q.1 q.2.1 q.2.2, w ∈ GW) ∧ (∀ k, k < q.2.2 → parseFieldDescriptor (q.2.1 k).2.2.1 = some (tyF ci k)) ∧ (∀ a, a < q.2.2 → ∀ b, b < q.2.2 → a ≠ b → (q.2.1 a).2.1 ≠ (q.2.1 b).2.1)
theorem CL_ok : ∀ (ci : Nat) (q : vw_C), CL[ci]? = some q → CLok ci q := by
  intro ci q h
  match ci, h with
  | 0, h => cases h; exact ⟨in_De, tyok_De, nm_De⟩
  | 1, h => cases h; exact ⟨in_Ja, tyok_Ja, nm_Ja⟩
  | 2, h => cases h; exact ⟨in_Re, tyok_Re, nm_Re⟩
  | 3, h => cases h; exact ⟨in_Sa, tyok_Sa, nm_Sa⟩
  | 4, h => cases h; exact ⟨in_Se, tyok_Se, nm_Se⟩
  | 5, h => cases h; exact ⟨in_Sh, tyok_Sh, nm_Sh⟩
  | 6, h => cases h; exact ⟨in_Sp, tyok_Sp, nm_Sp⟩
  | 7, h => cases h; exact ⟨in_Te, tyok_Te, nm_Te⟩
  | 8, h => cases h; exact ⟨in_LJ, tyok_LJ, nm_LJ⟩
  | 9, h => cases h; exact ⟨in_Mo, tyok_Mo, nm_Mo⟩
  | n + 10, h => simp [CL] at h
theorem ac_int : Cond.arrayClass .int ∈ GW := inGW (i := 199) (by decide +kernel) rfl
theorem ao_Ja : Cond.arrayOver (.object "LastJars$Jar") ∈ lw_tbl := List.mem_of_getElem? (i := 81) (by decide +kernel)
theorem ao_De : Cond.arrayOver (.object "LastJars$Decider") ∈ lw_tbl := List.mem_of_getElem? (i := 83) (by decide +kernel)
theorem ao_Sh : Cond.arrayOver (.object "LastJars$Sheet") ∈ lw_tbl := List.mem_of_getElem? (i := 245) (by decide +kernel)
theorem io_De : Cond.instantiable "LastJars$Decider" 4 ∈ GW := inGW (i := 120) (by decide +kernel) (by decide +kernel)
theorem io_Ja : Cond.instantiable "LastJars$Jar" 5 ∈ GW := inGW (i := 84) (by decide +kernel) (by decide +kernel)
theorem io_Re : Cond.instantiable "LastJars$Readings" 4 ∈ GW := inGW (i := 214) (by decide +kernel) (by decide +kernel)
theorem io_Sa : Cond.instantiable "LastJars$Sales" 5 ∈ GW := inGW (i := 178) (by decide +kernel) (by decide +kernel)
theorem io_Se : Cond.instantiable "LastJars$Service" 2 ∈ GW := inGW (i := 201) (by decide +kernel) (by decide +kernel)
theorem io_Sh : Cond.instantiable "LastJars$Sheet" 4 ∈ GW := inGW (i := 246) (by decide +kernel) (by decide +kernel)
theorem io_Sp : Cond.instantiable "LastJars$Shop" 4 ∈ GW := inGW (i := 75) (by decide +kernel) (by decide +kernel)
theorem io_Te : Cond.instantiable "LastJars$Teller" 1 ∈ GW := inGW (i := 234) (by decide +kernel) (by decide +kernel)
theorem io_LJ : Cond.instantiable "LastJars" 7 ∈ GW := inGW (i := 67) (by decide +kernel) (by decide +kernel)
theorem io_Mo : Cond.instantiable "LastJarsModel" 36 ∈ GW := inGW (i := 743) (by decide +kernel) (by decide +kernel)
theorem ii_La : Cond.initialized "LastJarsLaw" ∈ GW := inGW (i := 48) (by decide +kernel) (by decide +kernel)
theorem ii_LJ : Cond.initialized "LastJars" ∈ GW := inGW (i := 49) (by decide +kernel) (by decide +kernel)
theorem ii_Sp : Cond.initialized "LastJars$Shop" ∈ GW := inGW (i := 50) (by decide +kernel) (by decide +kernel)
theorem ii_Ja : Cond.initialized "LastJars$Jar" ∈ GW := inGW (i := 51) (by decide +kernel) (by decide +kernel)
theorem ii_De : Cond.initialized "LastJars$Decider" ∈ GW := inGW (i := 52) (by decide +kernel) (by decide +kernel)
theorem ii_Sa : Cond.initialized "LastJars$Sales" ∈ GW := inGW (i := 53) (by decide +kernel) (by decide +kernel)
theorem ii_Se : Cond.initialized "LastJars$Service" ∈ GW := inGW (i := 54) (by decide +kernel) (by decide +kernel)
theorem ii_Re : Cond.initialized "LastJars$Readings" ∈ GW := inGW (i := 55) (by decide +kernel) (by decide +kernel)
theorem ii_Te : Cond.initialized "LastJars$Teller" ∈ GW := inGW (i := 56) (by decide +kernel) (by decide +kernel)
theorem ii_Sh : Cond.initialized "LastJars$Sheet" ∈ GW := inGW (i := 57) (by decide +kernel) (by decide +kernel)
theorem ii_Mo : Cond.initialized "LastJarsModel" ∈ GW := inGW (i := 58) (by decide +kernel) (by decide +kernel)
theorem ii_Tx : Cond.initialized "LastJars$Text" ∈ GW := inGW (i := 59) (by decide +kernel) (by decide +kernel)
theorem ii_jM : Cond.initialized "java/lang/Math" ∈ GW := inGW (i := 60) (by decide +kernel) (by decide +kernel)
theorem ii_Bl : Cond.initialized "LastJars$Blends" ∈ GW := inGW (i := 61) (by decide +kernel) (by decide +kernel)
theorem ii_jI : Cond.initialized "java/lang/Integer" ∈ GW := inGW (i := 62) (by decide +kernel) (by decide +kernel)
theorem ii_Gu : Cond.initialized "LastJars$Guess" ∈ GW := inGW (i := 63) (by decide +kernel) (by decide +kernel)
theorem ii_jA : Cond.initialized "java/util/Arrays" ∈ GW := inGW (i := 64) (by decide +kernel) (by decide +kernel)
theorem ii_jS : Cond.initialized "java/lang/System" ∈ GW := inGW (i := 65) (by decide +kernel) (by decide +kernel)
theorem cl_La_7 : Cond.classLink "LastJarsLaw" 7 "LastJars" ∈ GW := inGW (i := 66) (by decide +kernel) (by decide +kernel)
theorem cl_LJ_9 : Cond.classLink "LastJars" 9 "LastJars$Shop" ∈ GW := inGW (i := 74) (by decide +kernel) (by decide +kernel)
theorem cl_Sp_9 : Cond.classLink "LastJars$Shop" 9 "LastJars$Jar" ∈ GW := inGW (i := 80) (by decide +kernel) (by decide +kernel)
theorem cl_Sp_17 : Cond.classLink "LastJars$Shop" 17 "LastJars$Decider" ∈ GW := inGW (i := 82) (by decide +kernel) (by decide +kernel)
theorem cl_LJ_18 : Cond.classLink "LastJars" 18 "LastJars$Sales" ∈ GW := inGW (i := 177) (by decide +kernel) (by decide +kernel)
theorem cl_LJ_25 : Cond.classLink "LastJars" 25 "LastJars$Service" ∈ GW := inGW (i := 200) (by decide +kernel) (by decide +kernel)
theorem cl_LJ_32 : Cond.classLink "LastJars" 32 "LastJars$Readings" ∈ GW := inGW (i := 213) (by decide +kernel) (by decide +kernel)
theorem cl_LJ_39 : Cond.classLink "LastJars" 39 "LastJars$Teller" ∈ GW := inGW (i := 233) (by decide +kernel) (by decide +kernel)
theorem cl_LJ_46 : Cond.classLink "LastJars" 46 "LastJars$Sheet" ∈ GW := inGW (i := 244) (by decide +kernel) (by decide +kernel)
theorem kc_jI_265 : Jvm.Cond.constant "java/lang/Integer" 265 1431655765 ∈ GW := inGW (i := 526) (by decide +kernel) (by decide +kernel)
theorem kc_jI_266 : Jvm.Cond.constant "java/lang/Integer" 266 858993459 ∈ GW := inGW (i := 527) (by decide +kernel) (by decide +kernel)
theorem kc_jI_267 : Jvm.Cond.constant "java/lang/Integer" 267 252645135 ∈ GW := inGW (i := 528) (by decide +kernel) (by decide +kernel)
theorem kl_LJ_210 : Jvm.Cond.constantLong "LastJars" 210 (-9223372036854775808) ∈ GW := inGW (i := 638) (by decide +kernel) (by decide +kernel)
theorem cl_La_10 : Cond.classLink "LastJarsLaw" 10 "LastJarsModel" ∈ GW := inGW (i := 742) (by decide +kernel) (by decide +kernel)
theorem kl_Mo_202 : Jvm.Cond.constantLong "LastJarsModel" 202 (3) ∈ GW := inGW (i := 864) (by decide +kernel) (by decide +kernel)
theorem kl_Mo_152 : Jvm.Cond.constantLong "LastJarsModel" 152 (2) ∈ GW := inGW (i := 872) (by decide +kernel) (by decide +kernel)
theorem kl_Mo_118 : Jvm.Cond.constantLong "LastJarsModel" 118 (9) ∈ GW := inGW (i := 900) (by decide +kernel) (by decide +kernel)
theorem kl_Mo_179 : Jvm.Cond.constantLong "LastJarsModel" 179 (99) ∈ GW := inGW (i := 953) (by decide +kernel) (by decide +kernel)
theorem kl_Mo_204 : Jvm.Cond.constantLong "LastJarsModel" 204 (10) ∈ GW := inGW (i := 1000) (by decide +kernel) (by decide +kernel)
theorem kl_Mo_206 : Jvm.Cond.constantLong "LastJarsModel" 206 (15) ∈ GW := inGW (i := 1001) (by decide +kernel) (by decide +kernel)
theorem kl_Mo_208 : Jvm.Cond.constantLong "LastJarsModel" 208 (20) ∈ GW := inGW (i := 1002) (by decide +kernel) (by decide +kernel)
theorem kl_Mo_210 : Jvm.Cond.constantLong "LastJarsModel" 210 (23) ∈ GW := inGW (i := 1003) (by decide +kernel) (by decide +kernel)
theorem kl_Mo_244 : Jvm.Cond.constantLong "LastJarsModel" 244 (-1) ∈ GW := inGW (i := 1052) (by decide +kernel) (by decide +kernel)
theorem kl_Mo_91 : Jvm.Cond.constantLong "LastJarsModel" 91 (-9223372036854775808) ∈ GW := inGW (i := 1096) (by decide +kernel) (by decide +kernel)
def FL (own : String) (idx ci k : Nat) : Prop := ∃ q : vw_C, CL[ci]? = some q ∧ k < q.2.2 ∧ Cond.fieldLink own idx (q.2.1 k).1 (q.2.1 k).2.1 (q.2.1 k).2.2.1 ∈ GW
theorem fl_Ja_9 : FL "LastJars$Jar" 9 1 0 := ⟨_, rfl, by decide, inGW (i := 89) (by decide +kernel) (by decide +kernel)⟩
theorem fl_Tx_57 : FL "LastJars$Text" 57 1 0 := ⟨_, rfl, by decide, inGW (i := 90) (by decide +kernel) (by decide +kernel)⟩
theorem fl_LJ_251 : FL "LastJars" 251 1 0 := ⟨_, rfl, by decide, inGW (i := 91) (by decide +kernel) (by decide +kernel)⟩
theorem fl_Ja_15 : FL "LastJars$Jar" 15 1 1 := ⟨_, rfl, by decide, inGW (i := 92) (by decide +kernel) (by decide +kernel)⟩
theorem fl_Te_17 : FL "LastJars$Teller" 17 1 1 := ⟨_, rfl, by decide, inGW (i := 93) (by decide +kernel) (by decide +kernel)⟩
theorem fl_Tx_62 : FL "LastJars$Text" 62 1 1 := ⟨_, rfl, by decide, inGW (i := 94) (by decide +kernel) (by decide +kernel)⟩
theorem fl_Ja_18 : FL "LastJars$Jar" 18 1 2 := ⟨_, rfl, by decide, inGW (i := 95) (by decide +kernel) (by decide +kernel)⟩
theorem fl_Tx_65 : FL "LastJars$Text" 65 1 2 := ⟨_, rfl, by decide, inGW (i := 96) (by decide +kernel) (by decide +kernel)⟩
theorem fl_Ja_21 : FL "LastJars$Jar" 21 1 3 := ⟨_, rfl, by decide, inGW (i := 97) (by decide +kernel) (by decide +kernel)⟩
theorem fl_Se_49 : FL "LastJars$Service" 49 1 3 := ⟨_, rfl, by decide, inGW (i := 98) (by decide +kernel) (by decide +kernel)⟩
theorem fl_Sa_75 : FL "LastJars$Sales" 75 1 3 := ⟨_, rfl, by decide, inGW (i := 99) (by decide +kernel) (by decide +kernel)⟩
theorem fl_Tx_68 : FL "LastJars$Text" 68 1 3 := ⟨_, rfl, by decide, inGW (i := 100) (by decide +kernel) (by decide +kernel)⟩
theorem fl_Sp_47 : FL "LastJars$Shop" 47 1 3 := ⟨_, rfl, by decide, inGW (i := 101) (by decide +kernel) (by decide +kernel)⟩
theorem fl_LJ_136 : FL "LastJars" 136 1 3 := ⟨_, rfl, by decide, inGW (i := 102) (by decide +kernel) (by decide +kernel)⟩
theorem fl_Ja_24 : FL "LastJars$Jar" 24 1 4 := ⟨_, rfl, by decide, inGW (i := 103) (by decide +kernel) (by decide +kernel)⟩
theorem fl_Se_36 : FL "LastJars$Service" 36 1 4 := ⟨_, rfl, by decide, inGW (i := 104) (by decide +kernel) (by decide +kernel)⟩
theorem fl_Sa_54 : FL "LastJars$Sales" 54 1 4 := ⟨_, rfl, by decide, inGW (i := 105) (by decide +kernel) (by decide +kernel)⟩
theorem fl_Tx_71 : FL "LastJars$Text" 71 1 4 := ⟨_, rfl, by decide, inGW (i := 106) (by decide +kernel) (by decide +kernel)⟩
theorem fl_Sp_44 : FL "LastJars$Shop" 44 1 4 := ⟨_, rfl, by decide, inGW (i := 107) (by decide +kernel) (by decide +kernel)⟩
theorem fl_LJ_139 : FL "LastJars" 139 1 4 := ⟨_, rfl, by decide, inGW (i := 108) (by decide +kernel) (by decide +kernel)⟩
theorem fl_De_9 : FL "LastJars$Decider" 9 0 0 := ⟨_, rfl, by decide, inGW (i := 125) (by decide +kernel) (by decide +kernel)⟩
theorem fl_Bl_51 : FL "LastJars$Blends" 51 0 0 := ⟨_, rfl, by decide, inGW (i := 126) (by decide +kernel) (by decide +kernel)⟩
theorem fl_Tx_74 : FL "LastJars$Text" 74 0 0 := ⟨_, rfl, by decide, inGW (i := 127) (by decide +kernel) (by decide +kernel)⟩
theorem fl_De_15 : FL "LastJars$Decider" 15 0 1 := ⟨_, rfl, by decide, inGW (i := 128) (by decide +kernel) (by decide +kernel)⟩
theorem fl_Bl_48 : FL "LastJars$Blends" 48 0 1 := ⟨_, rfl, by decide, inGW (i := 129) (by decide +kernel) (by decide +kernel)⟩
theorem fl_Tx_79 : FL "LastJars$Text" 79 0 1 := ⟨_, rfl, by decide, inGW (i := 130) (by decide +kernel) (by decide +kernel)⟩
theorem fl_De_18 : FL "LastJars$Decider" 18 0 2 := ⟨_, rfl, by decide, inGW (i := 131) (by decide +kernel) (by decide +kernel)⟩
theorem fl_Bl_31 : FL "LastJars$Blends" 31 0 2 := ⟨_, rfl, by decide, inGW (i := 132) (by decide +kernel) (by decide +kernel)⟩
theorem fl_Se_59 : FL "LastJars$Service" 59 0 2 := ⟨_, rfl, by decide, inGW (i := 133) (by decide +kernel) (by decide +kernel)⟩
theorem fl_Sa_81 : FL "LastJars$Sales" 81 0 2 := ⟨_, rfl, by decide, inGW (i := 134) (by decide +kernel) (by decide +kernel)⟩
theorem fl_Tx_82 : FL "LastJars$Text" 82 0 2 := ⟨_, rfl, by decide, inGW (i := 135) (by decide +kernel) (by decide +kernel)⟩
theorem fl_LJ_142 : FL "LastJars" 142 0 2 := ⟨_, rfl, by decide, inGW (i := 136) (by decide +kernel) (by decide +kernel)⟩
theorem fl_De_21 : FL "LastJars$Decider" 21 0 3 := ⟨_, rfl, by decide, inGW (i := 137) (by decide +kernel) (by decide +kernel)⟩
theorem fl_Tx_85 : FL "LastJars$Text" 85 0 3 := ⟨_, rfl, by decide, inGW (i := 138) (by decide +kernel) (by decide +kernel)⟩
theorem fl_LJ_149 : FL "LastJars" 149 0 3 := ⟨_, rfl, by decide, inGW (i := 139) (by decide +kernel) (by decide +kernel)⟩
theorem fl_Sp_11 : FL "LastJars$Shop" 11 6 0 := ⟨_, rfl, by decide, inGW (i := 149) (by decide +kernel) (by decide +kernel)⟩
theorem fl_Se_45 : FL "LastJars$Service" 45 6 0 := ⟨_, rfl, by decide, inGW (i := 150) (by decide +kernel) (by decide +kernel)⟩
theorem fl_Tx_41 : FL "LastJars$Text" 41 6 0 := ⟨_, rfl, by decide, inGW (i := 151) (by decide +kernel) (by decide +kernel)⟩
theorem fl_Sa_71 : FL "LastJars$Sales" 71 6 0 := ⟨_, rfl, by decide, inGW (i := 152) (by decide +kernel) (by decide +kernel)⟩
theorem fl_Sp_19 : FL "LastJars$Shop" 19 6 1 := ⟨_, rfl, by decide, inGW (i := 153) (by decide +kernel) (by decide +kernel)⟩
theorem fl_Se_52 : FL "LastJars$Service" 52 6 1 := ⟨_, rfl, by decide, inGW (i := 154) (by decide +kernel) (by decide +kernel)⟩
theorem fl_Tx_49 : FL "LastJars$Text" 49 6 1 := ⟨_, rfl, by decide, inGW (i := 155) (by decide +kernel) (by decide +kernel)⟩
theorem fl_Sa_77 : FL "LastJars$Sales" 77 6 1 := ⟨_, rfl, by decide, inGW (i := 156) (by decide +kernel) (by decide +kernel)⟩
theorem fl_Sp_25 : FL "LastJars$Shop" 25 6 2 := ⟨_, rfl, by decide, inGW (i := 157) (by decide +kernel) (by decide +kernel)⟩
theorem fl_Gu_9 : FL "LastJars$Guess" 9 6 2 := ⟨_, rfl, by decide, inGW (i := 158) (by decide +kernel) (by decide +kernel)⟩
theorem fl_LJ_89 : FL "LastJars" 89 6 2 := ⟨_, rfl, by decide, inGW (i := 159) (by decide +kernel) (by decide +kernel)⟩
theorem fl_Tx_32 : FL "LastJars$Text" 32 6 2 := ⟨_, rfl, by decide, inGW (i := 160) (by decide +kernel) (by decide +kernel)⟩
theorem fl_Se_56 : FL "LastJars$Service" 56 6 2 := ⟨_, rfl, by decide, inGW (i := 161) (by decide +kernel) (by decide +kernel)⟩
theorem fl_Sa_95 : FL "LastJars$Sales" 95 6 2 := ⟨_, rfl, by decide, inGW (i := 162) (by decide +kernel) (by decide +kernel)⟩
theorem fl_Se_26 : FL "LastJars$Service" 26 6 3 := ⟨_, rfl, by decide, inGW (i := 163) (by decide +kernel) (by decide +kernel)⟩
theorem fl_Sp_33 : FL "LastJars$Shop" 33 6 3 := ⟨_, rfl, by decide, inGW (i := 164) (by decide +kernel) (by decide +kernel)⟩
theorem fl_Tx_38 : FL "LastJars$Text" 38 6 3 := ⟨_, rfl, by decide, inGW (i := 165) (by decide +kernel) (by decide +kernel)⟩
theorem fl_Sa_98 : FL "LastJars$Sales" 98 6 3 := ⟨_, rfl, by decide, inGW (i := 166) (by decide +kernel) (by decide +kernel)⟩
theorem fl_LJ_274 : FL "LastJars" 274 6 3 := ⟨_, rfl, by decide, inGW (i := 167) (by decide +kernel) (by decide +kernel)⟩
theorem fl_Sa_9 : FL "LastJars$Sales" 9 3 0 := ⟨_, rfl, by decide, inGW (i := 183) (by decide +kernel) (by decide +kernel)⟩
theorem fl_Sa_15 : FL "LastJars$Sales" 15 3 1 := ⟨_, rfl, by decide, inGW (i := 184) (by decide +kernel) (by decide +kernel)⟩
theorem fl_Sa_50 : FL "LastJars$Sales" 50 3 2 := ⟨_, rfl, by decide, inGW (i := 185) (by decide +kernel) (by decide +kernel)⟩
theorem fl_Sa_62 : FL "LastJars$Sales" 62 3 3 := ⟨_, rfl, by decide, inGW (i := 186) (by decide +kernel) (by decide +kernel)⟩
theorem fl_Sa_59 : FL "LastJars$Sales" 59 3 4 := ⟨_, rfl, by decide, inGW (i := 187) (by decide +kernel) (by decide +kernel)⟩
theorem fl_Se_9 : FL "LastJars$Service" 9 4 0 := ⟨_, rfl, by decide, inGW (i := 206) (by decide +kernel) (by decide +kernel)⟩
theorem fl_Se_15 : FL "LastJars$Service" 15 4 1 := ⟨_, rfl, by decide, inGW (i := 207) (by decide +kernel) (by decide +kernel)⟩
theorem fl_Re_9 : FL "LastJars$Readings" 9 2 0 := ⟨_, rfl, by decide, inGW (i := 219) (by decide +kernel) (by decide +kernel)⟩
theorem fl_Re_15 : FL "LastJars$Readings" 15 2 1 := ⟨_, rfl, by decide, inGW (i := 220) (by decide +kernel) (by decide +kernel)⟩
theorem fl_Re_18 : FL "LastJars$Readings" 18 2 2 := ⟨_, rfl, by decide, inGW (i := 221) (by decide +kernel) (by decide +kernel)⟩
theorem fl_Re_21 : FL "LastJars$Readings" 21 2 3 := ⟨_, rfl, by decide, inGW (i := 222) (by decide +kernel) (by decide +kernel)⟩
theorem fl_LJ_86 : FL "LastJars" 86 2 3 := ⟨_, rfl, by decide, inGW (i := 223) (by decide +kernel) (by decide +kernel)⟩
theorem fl_Te_7 : FL "LastJars$Teller" 7 7 0 := ⟨_, rfl, by decide, inGW (i := 239) (by decide +kernel) (by decide +kernel)⟩
theorem fl_LJ_271 : FL "LastJars" 271 7 0 := ⟨_, rfl, by decide, inGW (i := 240) (by decide +kernel) (by decide +kernel)⟩
theorem fl_Sh_9 : FL "LastJars$Sheet" 9 5 0 := ⟨_, rfl, by decide, inGW (i := 251) (by decide +kernel) (by decide +kernel)⟩
theorem fl_LJ_241 : FL "LastJars" 241 5 0 := ⟨_, rfl, by decide, inGW (i := 252) (by decide +kernel) (by decide +kernel)⟩
theorem fl_Sh_15 : FL "LastJars$Sheet" 15 5 1 := ⟨_, rfl, by decide, inGW (i := 253) (by decide +kernel) (by decide +kernel)⟩
theorem fl_LJ_225 : FL "LastJars" 225 5 1 := ⟨_, rfl, by decide, inGW (i := 254) (by decide +kernel) (by decide +kernel)⟩
theorem fl_Sh_19 : FL "LastJars$Sheet" 19 5 2 := ⟨_, rfl, by decide, inGW (i := 255) (by decide +kernel) (by decide +kernel)⟩
theorem fl_LJ_229 : FL "LastJars" 229 5 2 := ⟨_, rfl, by decide, inGW (i := 256) (by decide +kernel) (by decide +kernel)⟩
theorem fl_Sh_23 : FL "LastJars$Sheet" 23 5 3 := ⟨_, rfl, by decide, inGW (i := 257) (by decide +kernel) (by decide +kernel)⟩
theorem fl_LJ_12 : FL "LastJars" 12 8 0 := ⟨_, rfl, by decide, inGW (i := 267) (by decide +kernel) (by decide +kernel)⟩
theorem fl_LJ_21 : FL "LastJars" 21 8 1 := ⟨_, rfl, by decide, inGW (i := 268) (by decide +kernel) (by decide +kernel)⟩
theorem fl_LJ_28 : FL "LastJars" 28 8 2 := ⟨_, rfl, by decide, inGW (i := 269) (by decide +kernel) (by decide +kernel)⟩
theorem fl_LJ_35 : FL "LastJars" 35 8 3 := ⟨_, rfl, by decide, inGW (i := 270) (by decide +kernel) (by decide +kernel)⟩
theorem fl_LJ_42 : FL "LastJars" 42 8 4 := ⟨_, rfl, by decide, inGW (i := 271) (by decide +kernel) (by decide +kernel)⟩
theorem fl_LJ_48 : FL "LastJars" 48 8 5 := ⟨_, rfl, by decide, inGW (i := 272) (by decide +kernel) (by decide +kernel)⟩
theorem fl_LJ_52 : FL "LastJars" 52 8 6 := ⟨_, rfl, by decide, inGW (i := 273) (by decide +kernel) (by decide +kernel)⟩
theorem fl_Mo_93 : FL "LastJarsModel" 93 9 0 := ⟨_, rfl, by decide, inGW (i := 748) (by decide +kernel) (by decide +kernel)⟩
theorem fl_Mo_101 : FL "LastJarsModel" 101 9 1 := ⟨_, rfl, by decide, inGW (i := 749) (by decide +kernel) (by decide +kernel)⟩
theorem fl_Mo_7 : FL "LastJarsModel" 7 9 2 := ⟨_, rfl, by decide, inGW (i := 750) (by decide +kernel) (by decide +kernel)⟩
theorem fl_Mo_13 : FL "LastJarsModel" 13 9 3 := ⟨_, rfl, by decide, inGW (i := 751) (by decide +kernel) (by decide +kernel)⟩
theorem fl_Mo_16 : FL "LastJarsModel" 16 9 4 := ⟨_, rfl, by decide, inGW (i := 752) (by decide +kernel) (by decide +kernel)⟩
theorem fl_Mo_19 : FL "LastJarsModel" 19 9 5 := ⟨_, rfl, by decide, inGW (i := 753) (by decide +kernel) (by decide +kernel)⟩
theorem fl_Mo_22 : FL "LastJarsModel" 22 9 6 := ⟨_, rfl, by decide, inGW (i := 754) (by decide +kernel) (by decide +kernel)⟩
theorem fl_Mo_108 : FL "LastJarsModel" 108 9 7 := ⟨_, rfl, by decide, inGW (i := 755) (by decide +kernel) (by decide +kernel)⟩
theorem fl_Mo_25 : FL "LastJarsModel" 25 9 8 := ⟨_, rfl, by decide, inGW (i := 756) (by decide +kernel) (by decide +kernel)⟩
theorem fl_Mo_28 : FL "LastJarsModel" 28 9 9 := ⟨_, rfl, by decide, inGW (i := 757) (by decide +kernel) (by decide +kernel)⟩
theorem fl_Mo_31 : FL "LastJarsModel" 31 9 10 := ⟨_, rfl, by decide, inGW (i := 758) (by decide +kernel) (by decide +kernel)⟩
theorem fl_Mo_34 : FL "LastJarsModel" 34 9 11 := ⟨_, rfl, by decide, inGW (i := 759) (by decide +kernel) (by decide +kernel)⟩
theorem fl_Mo_111 : FL "LastJarsModel" 111 9 12 := ⟨_, rfl, by decide, inGW (i := 760) (by decide +kernel) (by decide +kernel)⟩
theorem fl_Mo_120 : FL "LastJarsModel" 120 9 13 := ⟨_, rfl, by decide, inGW (i := 761) (by decide +kernel) (by decide +kernel)⟩
theorem fl_Mo_127 : FL "LastJarsModel" 127 9 14 := ⟨_, rfl, by decide, inGW (i := 762) (by decide +kernel) (by decide +kernel)⟩
theorem fl_Mo_37 : FL "LastJarsModel" 37 9 15 := ⟨_, rfl, by decide, inGW (i := 763) (by decide +kernel) (by decide +kernel)⟩
theorem fl_Mo_40 : FL "LastJarsModel" 40 9 16 := ⟨_, rfl, by decide, inGW (i := 764) (by decide +kernel) (by decide +kernel)⟩
theorem fl_Mo_43 : FL "LastJarsModel" 43 9 17 := ⟨_, rfl, by decide, inGW (i := 765) (by decide +kernel) (by decide +kernel)⟩
theorem fl_Mo_46 : FL "LastJarsModel" 46 9 18 := ⟨_, rfl, by decide, inGW (i := 766) (by decide +kernel) (by decide +kernel)⟩
theorem fl_Mo_49 : FL "LastJarsModel" 49 9 19 := ⟨_, rfl, by decide, inGW (i := 767) (by decide +kernel) (by decide +kernel)⟩
theorem fl_Mo_52 : FL "LastJarsModel" 52 9 20 := ⟨_, rfl, by decide, inGW (i := 768) (by decide +kernel) (by decide +kernel)⟩
theorem fl_Mo_55 : FL "LastJarsModel" 55 9 21 := ⟨_, rfl, by decide, inGW (i := 769) (by decide +kernel) (by decide +kernel)⟩
theorem fl_Mo_58 : FL "LastJarsModel" 58 9 22 := ⟨_, rfl, by decide, inGW (i := 770) (by decide +kernel) (by decide +kernel)⟩
theorem fl_Mo_61 : FL "LastJarsModel" 61 9 23 := ⟨_, rfl, by decide, inGW (i := 771) (by decide +kernel) (by decide +kernel)⟩
theorem fl_Mo_64 : FL "LastJarsModel" 64 9 24 := ⟨_, rfl, by decide, inGW (i := 772) (by decide +kernel) (by decide +kernel)⟩
theorem fl_Mo_67 : FL "LastJarsModel" 67 9 25 := ⟨_, rfl, by decide, inGW (i := 773) (by decide +kernel) (by decide +kernel)⟩
theorem fl_Mo_241 : FL "LastJarsModel" 241 9 26 := ⟨_, rfl, by decide, inGW (i := 774) (by decide +kernel) (by decide +kernel)⟩
theorem fl_Mo_161 : FL "LastJarsModel" 161 9 27 := ⟨_, rfl, by decide, inGW (i := 775) (by decide +kernel) (by decide +kernel)⟩
theorem fl_Mo_70 : FL "LastJarsModel" 70 9 28 := ⟨_, rfl, by decide, inGW (i := 776) (by decide +kernel) (by decide +kernel)⟩
theorem fl_Mo_73 : FL "LastJarsModel" 73 9 29 := ⟨_, rfl, by decide, inGW (i := 777) (by decide +kernel) (by decide +kernel)⟩
theorem fl_Mo_76 : FL "LastJarsModel" 76 9 30 := ⟨_, rfl, by decide, inGW (i := 778) (by decide +kernel) (by decide +kernel)⟩
theorem fl_Mo_79 : FL "LastJarsModel" 79 9 31 := ⟨_, rfl, by decide, inGW (i := 779) (by decide +kernel) (by decide +kernel)⟩
theorem fl_Mo_82 : FL "LastJarsModel" 82 9 32 := ⟨_, rfl, by decide, inGW (i := 780) (by decide +kernel) (by decide +kernel)⟩
theorem fl_Mo_85 : FL "LastJarsModel" 85 9 33 := ⟨_, rfl, by decide, inGW (i := 781) (by decide +kernel) (by decide +kernel)⟩
theorem fl_Mo_88 : FL "LastJarsModel" 88 9 34 := ⟨_, rfl, by decide, inGW (i := 782) (by decide +kernel) (by decide +kernel)⟩
theorem fl_Mo_264 : FL "LastJarsModel" 264 9 35 := ⟨_, rfl, by decide, inGW (i := 783) (by decide +kernel) (by decide +kernel)⟩
def YI (y : MethodName) (cc : ByteArray) (maxL : Nat) (ret : Option FieldType) (n : Nat) : Prop := Cond.code y cc maxL ret ∈ GW ∧ Cond.initialized y.cls ∈ GW ∧ (y.cls ≠ "java/lang/invoke/MethodHandle" ∧ y.cls ≠ "java/lang/invoke/VarHandle" ∧ (parseMethodDescriptor y.desc).map (fun d => d.parameters.length) = some n) ∧ plainName y.cls = true
abbrev c_Bl_longest : ByteArray := prog_2_method_2_code
def y_Bl_longest : MethodName := ⟨"LastJars$Blends", "longest", "(LLastJars$Shop;II)I"⟩
theorem k_Bl_longest : YI y_Bl_longest c_Bl_longest 6 (some .int) 3 := ⟨inGW (i := 447) (by decide +kernel) (by decide +kernel), ii_Bl, by decide +kernel, by decide +kernel⟩
theorem ks_Bl_longest : Cond.static y_Bl_longest ∈ GW := inGW (i := 446) (by decide +kernel) (by decide +kernel)
abbrev c_Bl_cheapest : ByteArray := prog_2_method_3_code
def y_Bl_cheapest : MethodName := ⟨"LastJars$Blends", "cheapest", "(LLastJars$Shop;LLastJars$Decider;)I"⟩
theorem k_Bl_cheapest : YI y_Bl_cheapest c_Bl_cheapest 8 (some .int) 2 := ⟨inGW (i := 510) (by decide +kernel) (by decide +kernel), ii_Bl, by decide +kernel, by decide +kernel⟩
theorem ks_Bl_cheapest : Cond.static y_Bl_cheapest ∈ GW := inGW (i := 509) (by decide +kernel) (by decide +kernel)
abbrev c_Bl_decides : ByteArray := prog_2_method_4_code
def y_Bl_decides : MethodName := ⟨"LastJars$Blends", "decides", "(LLastJars$Shop;LLastJars$Decider;I)Z"⟩
theorem k_Bl_decides : YI y_Bl_decides c_Bl_decides 3 (some .boolean) 3 := ⟨inGW (i := 522) (by decide +kernel) (by decide +kernel), ii_Bl, by decide +kernel, by decide +kernel⟩
theorem ks_Bl_decides : Cond.static y_Bl_decides ∈ GW := inGW (i := 521) (by decide +kernel) (by decide +kernel)
abbrev c_Bl_alike : ByteArray := prog_2_method_5_code
def y_Bl_alike : MethodName := ⟨"LastJars$Blends", "alike", "(LLastJars$Shop;I)I"⟩
theorem k_Bl_alike : YI y_Bl_alike c_Bl_alike 5 (some .int) 2 := ⟨inGW (i := 536) (by decide +kernel) (by decide +kernel), ii_Bl, by decide +kernel, by decide +kernel⟩
theorem ks_Bl_alike : Cond.static y_Bl_alike ∈ GW := inGW (i := 535) (by decide +kernel) (by decide +kernel)
abbrev c_Bl_isSameMarked : ByteArray := prog_2_method_6_code
def y_Bl_isSameMarked : MethodName := ⟨"LastJars$Blends", "isSameMarked", "(LLastJars$Shop;II)Z"⟩
theorem k_Bl_isSameMarked : YI y_Bl_isSameMarked c_Bl_isSameMarked 4 (some .boolean) 3 := ⟨inGW (i := 539) (by decide +kernel) (by decide +kernel), ii_Bl, by decide +kernel, by decide +kernel⟩
theorem ks_Bl_isSameMarked : Cond.static y_Bl_isSameMarked ∈ GW := inGW (i := 538) (by decide +kernel) (by decide +kernel)
abbrev c_Bl_howManyStocked : ByteArray := prog_2_method_7_code
def y_Bl_howManyStocked : MethodName := ⟨"LastJars$Blends", "howManyStocked", "(LLastJars$Shop;)I"⟩
theorem k_Bl_howManyStocked : YI y_Bl_howManyStocked c_Bl_howManyStocked 1 (some .int) 1 := ⟨inGW (i := 641) (by decide +kernel) (by decide +kernel), ii_Bl, by decide +kernel, by decide +kernel⟩
theorem ks_Bl_howManyStocked : Cond.static y_Bl_howManyStocked ∈ GW := inGW (i := 640) (by decide +kernel) (by decide +kernel)
abbrev c_Bl_howManyDeciding : ByteArray := prog_2_method_8_code
def y_Bl_howManyDeciding : MethodName := ⟨"LastJars$Blends", "howManyDeciding", "(LLastJars$Shop;LLastJars$Decider;)I"⟩
theorem k_Bl_howManyDeciding : YI y_Bl_howManyDeciding c_Bl_howManyDeciding 5 (some .int) 2 := ⟨inGW (i := 644) (by decide +kernel) (by decide +kernel), ii_Bl, by decide +kernel, by decide +kernel⟩
theorem ks_Bl_howManyDeciding : Cond.static y_Bl_howManyDeciding ∈ GW := inGW (i := 643) (by decide +kernel) (by decide +kernel)
abbrev c_Bl_greatestDivisor : ByteArray := prog_2_method_9_code
def y_Bl_greatestDivisor : MethodName := ⟨"LastJars$Blends", "greatestDivisor", "(II)I"⟩
theorem k_Bl_greatestDivisor : YI y_Bl_greatestDivisor c_Bl_greatestDivisor 3 (some .int) 2 := ⟨inGW (i := 647) (by decide +kernel) (by decide +kernel), ii_Bl, by decide +kernel, by decide +kernel⟩
theorem ks_Bl_greatestDivisor : Cond.static y_Bl_greatestDivisor ∈ GW := inGW (i := 646) (by decide +kernel) (by decide +kernel)
abbrev c_De_init : ByteArray := prog_3_method_1_code
def y_De_init : MethodName := ⟨"LastJars$Decider", "<init>", "()V"⟩
theorem k_De_init : YI y_De_init c_De_init 1 none 0 := ⟨inGW (i := 123) (by decide +kernel) (by decide +kernel), ii_De, by decide +kernel, by decide +kernel⟩
theorem ki_De_init : Cond.instanceMethod y_De_init ∈ GW := inGW (i := 122) (by decide +kernel) (by decide +kernel)
abbrev c_De_part : ByteArray := prog_3_method_2_code
def y_De_part : MethodName := ⟨"LastJars$Decider", "part", "(I)I"⟩
theorem k_De_part : YI y_De_part c_De_part 2 (some .int) 1 := ⟨inGW (i := 378) (by decide +kernel) (by decide +kernel), ii_De, by decide +kernel, by decide +kernel⟩
theorem ki_De_part : Cond.instanceMethod y_De_part ∈ GW := inGW (i := 376) (by decide +kernel) (by decide +kernel)
theorem kv_De_part : Cond.selects "LastJars$Decider" y_De_part y_De_part ∈ GW := inGW (i := 377) (by decide +kernel) (by decide +kernel)
abbrev c_De_become : ByteArray := prog_3_method_3_code
def y_De_become : MethodName := ⟨"LastJars$Decider", "become", "(II)V"⟩
theorem k_De_become : YI y_De_become c_De_become 3 none 2 := ⟨inGW (i := 410) (by decide +kernel) (by decide +kernel), ii_De, by decide +kernel, by decide +kernel⟩
theorem ki_De_become : Cond.instanceMethod y_De_become ∈ GW := inGW (i := 408) (by decide +kernel) (by decide +kernel)
theorem kv_De_become : Cond.selects "LastJars$Decider" y_De_become y_De_become ∈ GW := inGW (i := 409) (by decide +kernel) (by decide +kernel)
abbrev c_De_decidesBy : ByteArray := prog_3_method_4_code
def y_De_decidesBy : MethodName := ⟨"LastJars$Decider", "decidesBy", "(LLastJars$Jar;)Z"⟩
theorem k_De_decidesBy : YI y_De_decidesBy c_De_decidesBy 2 (some .boolean) 1 := ⟨inGW (i := 457) (by decide +kernel) (by decide +kernel), ii_De, by decide +kernel, by decide +kernel⟩
theorem ki_De_decidesBy : Cond.instanceMethod y_De_decidesBy ∈ GW := inGW (i := 455) (by decide +kernel) (by decide +kernel)
theorem kv_De_decidesBy : Cond.selects "LastJars$Decider" y_De_decidesBy y_De_decidesBy ∈ GW := inGW (i := 456) (by decide +kernel) (by decide +kernel)
abbrev c_Gu_jars : ByteArray := prog_4_method_2_code
def y_Gu_jars : MethodName := ⟨"LastJars$Guess", "jars", "(LLastJars$Shop;LLastJars$Sheet;II)I"⟩
theorem k_Gu_jars : YI y_Gu_jars c_Gu_jars 6 (some .int) 4 := ⟨inGW (i := 546) (by decide +kernel) (by decide +kernel), ii_Gu, by decide +kernel, by decide +kernel⟩
theorem ks_Gu_jars : Cond.static y_Gu_jars ∈ GW := inGW (i := 545) (by decide +kernel) (by decide +kernel)
abbrev c_Gu_howManyPairs : ByteArray := prog_4_method_3_code
def y_Gu_howManyPairs : MethodName := ⟨"LastJars$Guess", "howManyPairs", "(LLastJars$Shop;LLastJars$Sheet;II)I"⟩
theorem k_Gu_howManyPairs : YI y_Gu_howManyPairs c_Gu_howManyPairs 6 (some .int) 4 := ⟨inGW (i := 554) (by decide +kernel) (by decide +kernel), ii_Gu, by decide +kernel, by decide +kernel⟩
theorem ks_Gu_howManyPairs : Cond.static y_Gu_howManyPairs ∈ GW := inGW (i := 553) (by decide +kernel) (by decide +kernel)
abbrev c_Gu_leastPair : ByteArray := prog_4_method_4_code
def y_Gu_leastPair : MethodName := ⟨"LastJars$Guess", "leastPair", "(LLastJars$Shop;LLastJars$Sheet;II)I"⟩
theorem k_Gu_leastPair : YI y_Gu_leastPair c_Gu_leastPair 5 (some .int) 4 := ⟨inGW (i := 559) (by decide +kernel) (by decide +kernel), ii_Gu, by decide +kernel, by decide +kernel⟩
theorem ks_Gu_leastPair : Cond.static y_Gu_leastPair ∈ GW := inGW (i := 558) (by decide +kernel) (by decide +kernel)
abbrev c_Gu_hasMarks : ByteArray := prog_4_method_5_code
def y_Gu_hasMarks : MethodName := ⟨"LastJars$Guess", "hasMarks", "(LLastJars$Shop;ILLastJars$Sheet;II)Z"⟩
theorem k_Gu_hasMarks : YI y_Gu_hasMarks c_Gu_hasMarks 6 (some .boolean) 5 := ⟨inGW (i := 549) (by decide +kernel) (by decide +kernel), ii_Gu, by decide +kernel, by decide +kernel⟩
theorem ks_Gu_hasMarks : Cond.static y_Gu_hasMarks ∈ GW := inGW (i := 548) (by decide +kernel) (by decide +kernel)
abbrev c_Ja_init : ByteArray := prog_5_method_1_code
def y_Ja_init : MethodName := ⟨"LastJars$Jar", "<init>", "()V"⟩
theorem k_Ja_init : YI y_Ja_init c_Ja_init 1 none 0 := ⟨inGW (i := 87) (by decide +kernel) (by decide +kernel), ii_Ja, by decide +kernel, by decide +kernel⟩
theorem ki_Ja_init : Cond.instanceMethod y_Ja_init ∈ GW := inGW (i := 86) (by decide +kernel) (by decide +kernel)
abbrev c_Ja_part : ByteArray := prog_5_method_2_code
def y_Ja_part : MethodName := ⟨"LastJars$Jar", "part", "(I)I"⟩
theorem k_Ja_part : YI y_Ja_part c_Ja_part 2 (some .int) 1 := ⟨inGW (i := 355) (by decide +kernel) (by decide +kernel), ii_Ja, by decide +kernel, by decide +kernel⟩
theorem ki_Ja_part : Cond.instanceMethod y_Ja_part ∈ GW := inGW (i := 353) (by decide +kernel) (by decide +kernel)
theorem kv_Ja_part : Cond.selects "LastJars$Jar" y_Ja_part y_Ja_part ∈ GW := inGW (i := 354) (by decide +kernel) (by decide +kernel)
abbrev c_Ja_become : ByteArray := prog_5_method_3_code
def y_Ja_become : MethodName := ⟨"LastJars$Jar", "become", "(II)V"⟩
theorem k_Ja_become : YI y_Ja_become c_Ja_become 3 none 2 := ⟨inGW (i := 390) (by decide +kernel) (by decide +kernel), ii_Ja, by decide +kernel, by decide +kernel⟩
theorem ki_Ja_become : Cond.instanceMethod y_Ja_become ∈ GW := inGW (i := 388) (by decide +kernel) (by decide +kernel)
theorem kv_Ja_become : Cond.selects "LastJars$Jar" y_Ja_become y_Ja_become ∈ GW := inGW (i := 389) (by decide +kernel) (by decide +kernel)
abbrev c_Ja_markIn : ByteArray := prog_5_method_4_code
def y_Ja_markIn : MethodName := ⟨"LastJars$Jar", "markIn", "(I)I"⟩
theorem k_Ja_markIn : YI y_Ja_markIn c_Ja_markIn 4 (some .int) 1 := ⟨inGW (i := 363) (by decide +kernel) (by decide +kernel), ii_Ja, by decide +kernel, by decide +kernel⟩
theorem ki_Ja_markIn : Cond.instanceMethod y_Ja_markIn ∈ GW := inGW (i := 361) (by decide +kernel) (by decide +kernel)
theorem kv_Ja_markIn : Cond.selects "LastJars$Jar" y_Ja_markIn y_Ja_markIn ∈ GW := inGW (i := 362) (by decide +kernel) (by decide +kernel)
abbrev c_Ja_greatest : ByteArray := prog_5_method_5_code
def y_Ja_greatest : MethodName := ⟨"LastJars$Jar", "greatest", "()I"⟩
theorem k_Ja_greatest : YI y_Ja_greatest c_Ja_greatest 3 (some .int) 0 := ⟨inGW (i := 359) (by decide +kernel) (by decide +kernel), ii_Ja, by decide +kernel, by decide +kernel⟩
theorem ki_Ja_greatest : Cond.instanceMethod y_Ja_greatest ∈ GW := inGW (i := 358) (by decide +kernel) (by decide +kernel)
theorem kv_Ja_greatest : Cond.selects "LastJars$Jar" y_Ja_greatest y_Ja_greatest ∈ GW := inGW (i := 3) (by decide +kernel) (by decide +kernel)
abbrev c_Re_init : ByteArray := prog_6_method_1_code
def y_Re_init : MethodName := ⟨"LastJars$Readings", "<init>", "()V"⟩
theorem k_Re_init : YI y_Re_init c_Re_init 1 none 0 := ⟨inGW (i := 217) (by decide +kernel) (by decide +kernel), ii_Re, by decide +kernel, by decide +kernel⟩
theorem ki_Re_init : Cond.instanceMethod y_Re_init ∈ GW := inGW (i := 216) (by decide +kernel) (by decide +kernel)
abbrev c_Re_take : ByteArray := prog_6_method_2_code
def y_Re_take : MethodName := ⟨"LastJars$Readings", "take", "(III)I"⟩
theorem k_Re_take : YI y_Re_take c_Re_take 4 (some .int) 3 := ⟨inGW (i := 607) (by decide +kernel) (by decide +kernel), ii_Re, by decide +kernel, by decide +kernel⟩
theorem ki_Re_take : Cond.instanceMethod y_Re_take ∈ GW := inGW (i := 605) (by decide +kernel) (by decide +kernel)
theorem kv_Re_take : Cond.selects "LastJars$Readings" y_Re_take y_Re_take ∈ GW := inGW (i := 606) (by decide +kernel) (by decide +kernel)
abbrev c_Re_areSo : ByteArray := prog_6_method_3_code
def y_Re_areSo : MethodName := ⟨"LastJars$Readings", "areSo", "(LLastJars$Shop;)Z"⟩
theorem k_Re_areSo : YI y_Re_areSo c_Re_areSo 4 (some .boolean) 1 := ⟨inGW (i := 623) (by decide +kernel) (by decide +kernel), ii_Re, by decide +kernel, by decide +kernel⟩
theorem ki_Re_areSo : Cond.instanceMethod y_Re_areSo ∈ GW := inGW (i := 621) (by decide +kernel) (by decide +kernel)
theorem kv_Re_areSo : Cond.selects "LastJars$Readings" y_Re_areSo y_Re_areSo ∈ GW := inGW (i := 622) (by decide +kernel) (by decide +kernel)
abbrev c_Sa_init : ByteArray := prog_7_method_1_code
def y_Sa_init : MethodName := ⟨"LastJars$Sales", "<init>", "()V"⟩
theorem k_Sa_init : YI y_Sa_init c_Sa_init 1 none 0 := ⟨inGW (i := 181) (by decide +kernel) (by decide +kernel), ii_Sa, by decide +kernel, by decide +kernel⟩
theorem ki_Sa_init : Cond.instanceMethod y_Sa_init ∈ GW := inGW (i := 180) (by decide +kernel) (by decide +kernel)
abbrev c_Sa_isTold : ByteArray := prog_7_method_2_code
def y_Sa_isTold : MethodName := ⟨"LastJars$Sales", "isTold", "(I)Z"⟩
theorem k_Sa_isTold : YI y_Sa_isTold c_Sa_isTold 1 (some .boolean) 1 := ⟨inGW (i := 465) (by decide +kernel) (by decide +kernel), ii_Sa, by decide +kernel, by decide +kernel⟩
theorem ks_Sa_isTold : Cond.static y_Sa_isTold ∈ GW := inGW (i := 464) (by decide +kernel) (by decide +kernel)
abbrev c_Sa_areAllThere : ByteArray := prog_7_method_3_code
def y_Sa_areAllThere : MethodName := ⟨"LastJars$Sales", "areAllThere", "(LLastJars$Shop;LLastJars$Sheet;II)Z"⟩
theorem k_Sa_areAllThere : YI y_Sa_areAllThere c_Sa_areAllThere 5 (some .boolean) 4 := ⟨inGW (i := 469) (by decide +kernel) (by decide +kernel), ii_Sa, by decide +kernel, by decide +kernel⟩
theorem ks_Sa_areAllThere : Cond.static y_Sa_areAllThere ∈ GW := inGW (i := 468) (by decide +kernel) (by decide +kernel)
abbrev c_Sa_buyerOf : ByteArray := prog_7_method_4_code
def y_Sa_buyerOf : MethodName := ⟨"LastJars$Sales", "buyerOf", "(LLastJars$Shop;LLastJars$Sheet;II)LLastJars$Decider;"⟩
theorem k_Sa_buyerOf : YI y_Sa_buyerOf c_Sa_buyerOf 4 (some (.object "LastJars$Decider")) 4 := ⟨inGW (i := 472) (by decide +kernel) (by decide +kernel), ii_Sa, by decide +kernel, by decide +kernel⟩
theorem ks_Sa_buyerOf : Cond.static y_Sa_buyerOf ∈ GW := inGW (i := 471) (by decide +kernel) (by decide +kernel)
abbrev c_Sa_jarOf : ByteArray := prog_7_method_5_code
def y_Sa_jarOf : MethodName := ⟨"LastJars$Sales", "jarOf", "(LLastJars$Shop;LLastJars$Sheet;II)LLastJars$Jar;"⟩
theorem k_Sa_jarOf : YI y_Sa_jarOf c_Sa_jarOf 4 (some (.object "LastJars$Jar")) 4 := ⟨inGW (i := 477) (by decide +kernel) (by decide +kernel), ii_Sa, by decide +kernel, by decide +kernel⟩
theorem ks_Sa_jarOf : Cond.static y_Sa_jarOf ∈ GW := inGW (i := 476) (by decide +kernel) (by decide +kernel)
abbrev c_Sa_goThrough : ByteArray := prog_7_method_6_code
def y_Sa_goThrough : MethodName := ⟨"LastJars$Sales", "goThrough", "(LLastJars$Shop;LLastJars$Sheet;II)V"⟩
theorem k_Sa_goThrough : YI y_Sa_goThrough c_Sa_goThrough 10 none 4 := ⟨inGW (i := 482) (by decide +kernel) (by decide +kernel), ii_Sa, by decide +kernel, by decide +kernel⟩
theorem ki_Sa_goThrough : Cond.instanceMethod y_Sa_goThrough ∈ GW := inGW (i := 480) (by decide +kernel) (by decide +kernel)
theorem kv_Sa_goThrough : Cond.selects "LastJars$Sales" y_Sa_goThrough y_Sa_goThrough ∈ GW := inGW (i := 481) (by decide +kernel) (by decide +kernel)
abbrev c_Sa_begin : ByteArray := prog_7_method_7_code
def y_Sa_begin : MethodName := ⟨"LastJars$Sales", "begin", "(LLastJars$Shop;)V"⟩
theorem k_Sa_begin : YI y_Sa_begin c_Sa_begin 3 none 1 := ⟨inGW (i := 486) (by decide +kernel) (by decide +kernel), ii_Sa, by decide +kernel, by decide +kernel⟩
theorem ki_Sa_begin : Cond.instanceMethod y_Sa_begin ∈ GW := inGW (i := 485) (by decide +kernel) (by decide +kernel)
theorem kv_Sa_begin : Cond.selects "LastJars$Sales" y_Sa_begin y_Sa_begin ∈ GW := inGW (i := 6) (by decide +kernel) (by decide +kernel)
abbrev c_Sa_answer : ByteArray := prog_7_method_8_code
def y_Sa_answer : MethodName := ⟨"LastJars$Sales", "answer", "(LLastJars$Shop;I)I"⟩
theorem k_Sa_answer : YI y_Sa_answer c_Sa_answer 3 (some .int) 2 := ⟨inGW (i := 491) (by decide +kernel) (by decide +kernel), ii_Sa, by decide +kernel, by decide +kernel⟩
theorem ki_Sa_answer : Cond.instanceMethod y_Sa_answer ∈ GW := inGW (i := 489) (by decide +kernel) (by decide +kernel)
theorem kv_Sa_answer : Cond.selects "LastJars$Sales" y_Sa_answer y_Sa_answer ∈ GW := inGW (i := 490) (by decide +kernel) (by decide +kernel)
abbrev c_Sa_emptied : ByteArray := prog_7_method_9_code
def y_Sa_emptied : MethodName := ⟨"LastJars$Sales", "emptied", "(LLastJars$Shop;)I"⟩
theorem k_Sa_emptied : YI y_Sa_emptied c_Sa_emptied 4 (some .int) 1 := ⟨inGW (i := 495) (by decide +kernel) (by decide +kernel), ii_Sa, by decide +kernel, by decide +kernel⟩
theorem ki_Sa_emptied : Cond.instanceMethod y_Sa_emptied ∈ GW := inGW (i := 494) (by decide +kernel) (by decide +kernel)
theorem kv_Sa_emptied : Cond.selects "LastJars$Sales" y_Sa_emptied y_Sa_emptied ∈ GW := inGW (i := 7) (by decide +kernel) (by decide +kernel)
abbrev c_Sa_halvesThen : ByteArray := prog_7_method_10_code
def y_Sa_halvesThen : MethodName := ⟨"LastJars$Sales", "halvesThen", "(LLastJars$Shop;I)I"⟩
theorem k_Sa_halvesThen : YI y_Sa_halvesThen c_Sa_halvesThen 3 (some .int) 2 := ⟨inGW (i := 499) (by decide +kernel) (by decide +kernel), ii_Sa, by decide +kernel, by decide +kernel⟩
theorem ki_Sa_halvesThen : Cond.instanceMethod y_Sa_halvesThen ∈ GW := inGW (i := 498) (by decide +kernel) (by decide +kernel)
theorem kv_Sa_halvesThen : Cond.selects "LastJars$Sales" y_Sa_halvesThen y_Sa_halvesThen ∈ GW := inGW (i := 8) (by decide +kernel) (by decide +kernel)
abbrev c_Sa_purseThen : ByteArray := prog_7_method_11_code
def y_Sa_purseThen : MethodName := ⟨"LastJars$Sales", "purseThen", "(LLastJars$Shop;I)I"⟩
theorem k_Sa_purseThen : YI y_Sa_purseThen c_Sa_purseThen 3 (some .int) 2 := ⟨inGW (i := 503) (by decide +kernel) (by decide +kernel), ii_Sa, by decide +kernel, by decide +kernel⟩
theorem ki_Sa_purseThen : Cond.instanceMethod y_Sa_purseThen ∈ GW := inGW (i := 502) (by decide +kernel) (by decide +kernel)
theorem kv_Sa_purseThen : Cond.selects "LastJars$Sales" y_Sa_purseThen y_Sa_purseThen ∈ GW := inGW (i := 9) (by decide +kernel) (by decide +kernel)
abbrev c_Se_init : ByteArray := prog_8_method_1_code
def y_Se_init : MethodName := ⟨"LastJars$Service", "<init>", "()V"⟩
theorem k_Se_init : YI y_Se_init c_Se_init 1 none 0 := ⟨inGW (i := 204) (by decide +kernel) (by decide +kernel), ii_Se, by decide +kernel, by decide +kernel⟩
theorem ki_Se_init : Cond.instanceMethod y_Se_init ∈ GW := inGW (i := 203) (by decide +kernel) (by decide +kernel)
abbrev c_Se_howMany : ByteArray := prog_8_method_2_code
def y_Se_howMany : MethodName := ⟨"LastJars$Service", "howMany", "(LLastJars$Shop;)I"⟩
theorem k_Se_howMany : YI y_Se_howMany c_Se_howMany 2 (some .int) 1 := ⟨inGW (i := 567) (by decide +kernel) (by decide +kernel), ii_Se, by decide +kernel, by decide +kernel⟩
theorem ki_Se_howMany : Cond.instanceMethod y_Se_howMany ∈ GW := inGW (i := 565) (by decide +kernel) (by decide +kernel)
theorem kv_Se_howMany : Cond.selects "LastJars$Service" y_Se_howMany y_Se_howMany ∈ GW := inGW (i := 566) (by decide +kernel) (by decide +kernel)
abbrev c_Se_jarFor : ByteArray := prog_8_method_3_code
def y_Se_jarFor : MethodName := ⟨"LastJars$Service", "jarFor", "(LLastJars$Shop;I)I"⟩
theorem k_Se_jarFor : YI y_Se_jarFor c_Se_jarFor 3 (some .int) 2 := ⟨inGW (i := 591) (by decide +kernel) (by decide +kernel), ii_Se, by decide +kernel, by decide +kernel⟩
theorem ki_Se_jarFor : Cond.instanceMethod y_Se_jarFor ∈ GW := inGW (i := 589) (by decide +kernel) (by decide +kernel)
theorem kv_Se_jarFor : Cond.selects "LastJars$Service" y_Se_jarFor y_Se_jarFor ∈ GW := inGW (i := 590) (by decide +kernel) (by decide +kernel)
abbrev c_Se_dearest : ByteArray := prog_8_method_4_code
def y_Se_dearest : MethodName := ⟨"LastJars$Service", "dearest", "(LLastJars$Shop;LLastJars$Jar;)I"⟩
theorem k_Se_dearest : YI y_Se_dearest c_Se_dearest 7 (some .int) 2 := ⟨inGW (i := 599) (by decide +kernel) (by decide +kernel), ii_Se, by decide +kernel, by decide +kernel⟩
theorem ki_Se_dearest : Cond.instanceMethod y_Se_dearest ∈ GW := inGW (i := 597) (by decide +kernel) (by decide +kernel)
theorem kv_Se_dearest : Cond.selects "LastJars$Service" y_Se_dearest y_Se_dearest ∈ GW := inGW (i := 598) (by decide +kernel) (by decide +kernel)
abbrev c_Se_begin : ByteArray := prog_8_method_5_code
def y_Se_begin : MethodName := ⟨"LastJars$Service", "begin", "(LLastJars$Shop;)V"⟩
theorem k_Se_begin : YI y_Se_begin c_Se_begin 3 none 1 := ⟨inGW (i := 571) (by decide +kernel) (by decide +kernel), ii_Se, by decide +kernel, by decide +kernel⟩
theorem ki_Se_begin : Cond.instanceMethod y_Se_begin ∈ GW := inGW (i := 570) (by decide +kernel) (by decide +kernel)
theorem kv_Se_begin : Cond.selects "LastJars$Service" y_Se_begin y_Se_begin ∈ GW := inGW (i := 10) (by decide +kernel) (by decide +kernel)
abbrev c_Se_most : ByteArray := prog_8_method_6_code
def y_Se_most : MethodName := ⟨"LastJars$Service", "most", "(LLastJars$Shop;[II)I"⟩
theorem k_Se_most : YI y_Se_most c_Se_most 7 (some .int) 3 := ⟨inGW (i := 574) (by decide +kernel) (by decide +kernel), ii_Se, by decide +kernel, by decide +kernel⟩
theorem ks_Se_most : Cond.static y_Se_most ∈ GW := inGW (i := 573) (by decide +kernel) (by decide +kernel)
abbrev c_Se_choose : ByteArray := prog_8_method_7_code
def y_Se_choose : MethodName := ⟨"LastJars$Service", "choose", "(LLastJars$Shop;)V"⟩
theorem k_Se_choose : YI y_Se_choose c_Se_choose 5 none 1 := ⟨inGW (i := 581) (by decide +kernel) (by decide +kernel), ii_Se, by decide +kernel, by decide +kernel⟩
theorem ki_Se_choose : Cond.instanceMethod y_Se_choose ∈ GW := inGW (i := 579) (by decide +kernel) (by decide +kernel)
theorem kv_Se_choose : Cond.selects "LastJars$Service" y_Se_choose y_Se_choose ∈ GW := inGW (i := 580) (by decide +kernel) (by decide +kernel)
abbrev c_Se_firstChoice : ByteArray := prog_8_method_8_code
def y_Se_firstChoice : MethodName := ⟨"LastJars$Service", "firstChoice", "(LLastJars$Shop;II)I"⟩
theorem k_Se_firstChoice : YI y_Se_firstChoice c_Se_firstChoice 8 (some .int) 3 := ⟨inGW (i := 586) (by decide +kernel) (by decide +kernel), ii_Se, by decide +kernel, by decide +kernel⟩
theorem ki_Se_firstChoice : Cond.instanceMethod y_Se_firstChoice ∈ GW := inGW (i := 585) (by decide +kernel) (by decide +kernel)
theorem kv_Se_firstChoice : Cond.selects "LastJars$Service" y_Se_firstChoice y_Se_firstChoice ∈ GW := inGW (i := 11) (by decide +kernel) (by decide +kernel)
abbrev c_Sh_init : ByteArray := prog_9_method_1_code
def y_Sh_init : MethodName := ⟨"LastJars$Sheet", "<init>", "()V"⟩
theorem k_Sh_init : YI y_Sh_init c_Sh_init 1 none 0 := ⟨inGW (i := 249) (by decide +kernel) (by decide +kernel), ii_Sh, by decide +kernel, by decide +kernel⟩
theorem ki_Sh_init : Cond.instanceMethod y_Sh_init ∈ GW := inGW (i := 248) (by decide +kernel) (by decide +kernel)
abbrev c_Sh_begin : ByteArray := prog_9_method_2_code
def y_Sh_begin : MethodName := ⟨"LastJars$Sheet", "begin", "(II)V"⟩
theorem k_Sh_begin : YI y_Sh_begin c_Sh_begin 3 none 2 := ⟨inGW (i := 655) (by decide +kernel) (by decide +kernel), ii_Sh, by decide +kernel, by decide +kernel⟩
theorem ki_Sh_begin : Cond.instanceMethod y_Sh_begin ∈ GW := inGW (i := 653) (by decide +kernel) (by decide +kernel)
theorem kv_Sh_begin : Cond.selects "LastJars$Sheet" y_Sh_begin y_Sh_begin ∈ GW := inGW (i := 654) (by decide +kernel) (by decide +kernel)
abbrev c_Sh_faultOf : ByteArray := prog_9_method_3_code
def y_Sh_faultOf : MethodName := ⟨"LastJars$Sheet", "faultOf", "(III)I"⟩
theorem k_Sh_faultOf : YI y_Sh_faultOf c_Sh_faultOf 4 (some .int) 3 := ⟨inGW (i := 307) (by decide +kernel) (by decide +kernel), ii_Sh, by decide +kernel, by decide +kernel⟩
theorem ki_Sh_faultOf : Cond.instanceMethod y_Sh_faultOf ∈ GW := inGW (i := 305) (by decide +kernel) (by decide +kernel)
theorem kv_Sh_faultOf : Cond.selects "LastJars$Sheet" y_Sh_faultOf y_Sh_faultOf ∈ GW := inGW (i := 306) (by decide +kernel) (by decide +kernel)
abbrev c_Sh_hasCells : ByteArray := prog_9_method_4_code
def y_Sh_hasCells : MethodName := ⟨"LastJars$Sheet", "hasCells", "(II)Z"⟩
theorem k_Sh_hasCells : YI y_Sh_hasCells c_Sh_hasCells 3 (some .boolean) 2 := ⟨inGW (i := 311) (by decide +kernel) (by decide +kernel), ii_Sh, by decide +kernel, by decide +kernel⟩
theorem ki_Sh_hasCells : Cond.instanceMethod y_Sh_hasCells ∈ GW := inGW (i := 309) (by decide +kernel) (by decide +kernel)
theorem kv_Sh_hasCells : Cond.selects "LastJars$Sheet" y_Sh_hasCells y_Sh_hasCells ∈ GW := inGW (i := 310) (by decide +kernel) (by decide +kernel)
abbrev c_Sh_at : ByteArray := prog_9_method_5_code
def y_Sh_at : MethodName := ⟨"LastJars$Sheet", "at", "(I)I"⟩
theorem k_Sh_at : YI y_Sh_at c_Sh_at 2 (some .int) 1 := ⟨inGW (i := 322) (by decide +kernel) (by decide +kernel), ii_Sh, by decide +kernel, by decide +kernel⟩
theorem ki_Sh_at : Cond.instanceMethod y_Sh_at ∈ GW := inGW (i := 320) (by decide +kernel) (by decide +kernel)
theorem kv_Sh_at : Cond.selects "LastJars$Sheet" y_Sh_at y_Sh_at ∈ GW := inGW (i := 321) (by decide +kernel) (by decide +kernel)
abbrev c_Sh_change : ByteArray := prog_9_method_6_code
def y_Sh_change : MethodName := ⟨"LastJars$Sheet", "change", "(II)V"⟩
theorem k_Sh_change : YI y_Sh_change c_Sh_change 3 none 2 := ⟨inGW (i := 670) (by decide +kernel) (by decide +kernel), ii_Sh, by decide +kernel, by decide +kernel⟩
theorem ki_Sh_change : Cond.instanceMethod y_Sh_change ∈ GW := inGW (i := 668) (by decide +kernel) (by decide +kernel)
theorem kv_Sh_change : Cond.selects "LastJars$Sheet" y_Sh_change y_Sh_change ∈ GW := inGW (i := 669) (by decide +kernel) (by decide +kernel)
abbrev c_Sh_cut : ByteArray := prog_9_method_7_code
def y_Sh_cut : MethodName := ⟨"LastJars$Sheet", "cut", "(I)I"⟩
theorem k_Sh_cut : YI y_Sh_cut c_Sh_cut 2 (some .int) 1 := ⟨inGW (i := 674) (by decide +kernel) (by decide +kernel), ii_Sh, by decide +kernel, by decide +kernel⟩
theorem ki_Sh_cut : Cond.instanceMethod y_Sh_cut ∈ GW := inGW (i := 673) (by decide +kernel) (by decide +kernel)
theorem kv_Sh_cut : Cond.selects "LastJars$Sheet" y_Sh_cut y_Sh_cut ∈ GW := inGW (i := 13) (by decide +kernel) (by decide +kernel)
abbrev c_Sp_init : ByteArray := prog_10_method_1_code
def y_Sp_init : MethodName := ⟨"LastJars$Shop", "<init>", "()V"⟩
theorem k_Sp_init : YI y_Sp_init c_Sp_init 2 none 0 := ⟨inGW (i := 78) (by decide +kernel) (by decide +kernel), ii_Sp, by decide +kernel, by decide +kernel⟩
theorem ki_Sp_init : Cond.instanceMethod y_Sp_init ∈ GW := inGW (i := 77) (by decide +kernel) (by decide +kernel)
abbrev c_Sp_isMissing : ByteArray := prog_10_method_2_code
def y_Sp_isMissing : MethodName := ⟨"LastJars$Shop", "isMissing", "()Z"⟩
theorem k_Sp_isMissing : YI y_Sp_isMissing c_Sp_isMissing 1 (some .boolean) 0 := ⟨inGW (i := 427) (by decide +kernel) (by decide +kernel), ii_Sp, by decide +kernel, by decide +kernel⟩
theorem ki_Sp_isMissing : Cond.instanceMethod y_Sp_isMissing ∈ GW := inGW (i := 425) (by decide +kernel) (by decide +kernel)
theorem kv_Sp_isMissing : Cond.selects "LastJars$Shop" y_Sp_isMissing y_Sp_isMissing ∈ GW := inGW (i := 426) (by decide +kernel) (by decide +kernel)
abbrev c_Sp_jarAt : ByteArray := prog_10_method_3_code
def y_Sp_jarAt : MethodName := ⟨"LastJars$Shop", "jarAt", "(I)LLastJars$Jar;"⟩
theorem k_Sp_jarAt : YI y_Sp_jarAt c_Sp_jarAt 2 (some (.object "LastJars$Jar")) 1 := ⟨inGW (i := 350) (by decide +kernel) (by decide +kernel), ii_Sp, by decide +kernel, by decide +kernel⟩
theorem ki_Sp_jarAt : Cond.instanceMethod y_Sp_jarAt ∈ GW := inGW (i := 348) (by decide +kernel) (by decide +kernel)
theorem kv_Sp_jarAt : Cond.selects "LastJars$Shop" y_Sp_jarAt y_Sp_jarAt ∈ GW := inGW (i := 349) (by decide +kernel) (by decide +kernel)
abbrev c_Sp_deciderAt : ByteArray := prog_10_method_4_code
def y_Sp_deciderAt : MethodName := ⟨"LastJars$Shop", "deciderAt", "(I)LLastJars$Decider;"⟩
theorem k_Sp_deciderAt : YI y_Sp_deciderAt c_Sp_deciderAt 2 (some (.object "LastJars$Decider")) 1 := ⟨inGW (i := 374) (by decide +kernel) (by decide +kernel), ii_Sp, by decide +kernel, by decide +kernel⟩
theorem ki_Sp_deciderAt : Cond.instanceMethod y_Sp_deciderAt ∈ GW := inGW (i := 372) (by decide +kernel) (by decide +kernel)
theorem kv_Sp_deciderAt : Cond.selects "LastJars$Shop" y_Sp_deciderAt y_Sp_deciderAt ∈ GW := inGW (i := 373) (by decide +kernel) (by decide +kernel)
abbrev c_Sp_setsEnd : ByteArray := prog_10_method_5_code
def y_Sp_setsEnd : MethodName := ⟨"LastJars$Shop", "setsEnd", "()I"⟩
theorem k_Sp_setsEnd : YI y_Sp_setsEnd c_Sp_setsEnd 1 (some .int) 0 := ⟨inGW (i := 435) (by decide +kernel) (by decide +kernel), ii_Sp, by decide +kernel, by decide +kernel⟩
theorem ki_Sp_setsEnd : Cond.instanceMethod y_Sp_setsEnd ∈ GW := inGW (i := 433) (by decide +kernel) (by decide +kernel)
theorem kv_Sp_setsEnd : Cond.selects "LastJars$Shop" y_Sp_setsEnd y_Sp_setsEnd ∈ GW := inGW (i := 434) (by decide +kernel) (by decide +kernel)
abbrev c_Sp_isBlend : ByteArray := prog_10_method_6_code
def y_Sp_isBlend : MethodName := ⟨"LastJars$Shop", "isBlend", "(I)Z"⟩
theorem k_Sp_isBlend : YI y_Sp_isBlend c_Sp_isBlend 2 (some .boolean) 1 := ⟨inGW (i := 431) (by decide +kernel) (by decide +kernel), ii_Sp, by decide +kernel, by decide +kernel⟩
theorem ki_Sp_isBlend : Cond.instanceMethod y_Sp_isBlend ∈ GW := inGW (i := 429) (by decide +kernel) (by decide +kernel)
theorem kv_Sp_isBlend : Cond.selects "LastJars$Shop" y_Sp_isBlend y_Sp_isBlend ∈ GW := inGW (i := 430) (by decide +kernel) (by decide +kernel)
abbrev c_Sp_markOf : ByteArray := prog_10_method_7_code
def y_Sp_markOf : MethodName := ⟨"LastJars$Shop", "markOf", "(II)I"⟩
theorem k_Sp_markOf : YI y_Sp_markOf c_Sp_markOf 6 (some .int) 2 := ⟨inGW (i := 439) (by decide +kernel) (by decide +kernel), ii_Sp, by decide +kernel, by decide +kernel⟩
theorem ki_Sp_markOf : Cond.instanceMethod y_Sp_markOf ∈ GW := inGW (i := 437) (by decide +kernel) (by decide +kernel)
theorem kv_Sp_markOf : Cond.selects "LastJars$Shop" y_Sp_markOf y_Sp_markOf ∈ GW := inGW (i := 438) (by decide +kernel) (by decide +kernel)
abbrev c_Sp_penceOf : ByteArray := prog_10_method_8_code
def y_Sp_penceOf : MethodName := ⟨"LastJars$Shop", "penceOf", "(I)I"⟩
theorem k_Sp_penceOf : YI y_Sp_penceOf c_Sp_penceOf 4 (some .int) 1 := ⟨inGW (i := 519) (by decide +kernel) (by decide +kernel), ii_Sp, by decide +kernel, by decide +kernel⟩
theorem ki_Sp_penceOf : Cond.instanceMethod y_Sp_penceOf ∈ GW := inGW (i := 517) (by decide +kernel) (by decide +kernel)
theorem kv_Sp_penceOf : Cond.selects "LastJars$Shop" y_Sp_penceOf y_Sp_penceOf ∈ GW := inGW (i := 518) (by decide +kernel) (by decide +kernel)
abbrev c_Sp_stocked : ByteArray := prog_10_method_9_code
def y_Sp_stocked : MethodName := ⟨"LastJars$Shop", "stocked", "()I"⟩
theorem k_Sp_stocked : YI y_Sp_stocked c_Sp_stocked 3 (some .int) 0 := ⟨inGW (i := 514) (by decide +kernel) (by decide +kernel), ii_Sp, by decide +kernel, by decide +kernel⟩
theorem ki_Sp_stocked : Cond.instanceMethod y_Sp_stocked ∈ GW := inGW (i := 512) (by decide +kernel) (by decide +kernel)
theorem kv_Sp_stocked : Cond.selects "LastJars$Shop" y_Sp_stocked y_Sp_stocked ∈ GW := inGW (i := 513) (by decide +kernel) (by decide +kernel)
abbrev c_Sp_allHalves : ByteArray := prog_10_method_10_code
def y_Sp_allHalves : MethodName := ⟨"LastJars$Shop", "allHalves", "()I"⟩
theorem k_Sp_allHalves : YI y_Sp_allHalves c_Sp_allHalves 3 (some .int) 0 := ⟨inGW (i := 741) (by decide +kernel) (by decide +kernel), ii_Sp, by decide +kernel, by decide +kernel⟩
theorem ki_Sp_allHalves : Cond.instanceMethod y_Sp_allHalves ∈ GW := inGW (i := 739) (by decide +kernel) (by decide +kernel)
theorem kv_Sp_allHalves : Cond.selects "LastJars$Shop" y_Sp_allHalves y_Sp_allHalves ∈ GW := inGW (i := 740) (by decide +kernel) (by decide +kernel)
abbrev c_Te_init : ByteArray := prog_11_method_1_code
def y_Te_init : MethodName := ⟨"LastJars$Teller", "<init>", "()V"⟩
theorem k_Te_init : YI y_Te_init c_Te_init 1 none 0 := ⟨inGW (i := 237) (by decide +kernel) (by decide +kernel), ii_Te, by decide +kernel, by decide +kernel⟩
theorem ki_Te_init : Cond.instanceMethod y_Te_init ∈ GW := inGW (i := 236) (by decide +kernel) (by decide +kernel)
abbrev c_Te_leave : ByteArray := prog_11_method_2_code
def y_Te_leave : MethodName := ⟨"LastJars$Teller", "leave", "(I)V"⟩
theorem k_Te_leave : YI y_Te_leave c_Te_leave 2 none 1 := ⟨inGW (i := 699) (by decide +kernel) (by decide +kernel), ii_Te, by decide +kernel, by decide +kernel⟩
theorem ki_Te_leave : Cond.instanceMethod y_Te_leave ∈ GW := inGW (i := 698) (by decide +kernel) (by decide +kernel)
theorem kv_Te_leave : Cond.selects "LastJars$Teller" y_Te_leave y_Te_leave ∈ GW := inGW (i := 14) (by decide +kernel) (by decide +kernel)
abbrev c_Te_tellLeaf : ByteArray := prog_11_method_3_code
def y_Te_tellLeaf : MethodName := ⟨"LastJars$Teller", "tellLeaf", "(LLastJars$Jar;)I"⟩
theorem k_Te_tellLeaf : YI y_Te_tellLeaf c_Te_tellLeaf 2 (some .int) 1 := ⟨inGW (i := 695) (by decide +kernel) (by decide +kernel), ii_Te, by decide +kernel, by decide +kernel⟩
theorem ki_Te_tellLeaf : Cond.instanceMethod y_Te_tellLeaf ∈ GW := inGW (i := 693) (by decide +kernel) (by decide +kernel)
theorem kv_Te_tellLeaf : Cond.selects "LastJars$Teller" y_Te_tellLeaf y_Te_tellLeaf ∈ GW := inGW (i := 694) (by decide +kernel) (by decide +kernel)
abbrev c_Te_tellTwist : ByteArray := prog_11_method_4_code
def y_Te_tellTwist : MethodName := ⟨"LastJars$Teller", "tellTwist", "(LLastJars$Jar;)I"⟩
theorem k_Te_tellTwist : YI y_Te_tellTwist c_Te_tellTwist 2 (some .int) 1 := ⟨inGW (i := 703) (by decide +kernel) (by decide +kernel), ii_Te, by decide +kernel, by decide +kernel⟩
theorem ki_Te_tellTwist : Cond.instanceMethod y_Te_tellTwist ∈ GW := inGW (i := 701) (by decide +kernel) (by decide +kernel)
theorem kv_Te_tellTwist : Cond.selects "LastJars$Teller" y_Te_tellTwist y_Te_tellTwist ∈ GW := inGW (i := 702) (by decide +kernel) (by decide +kernel)
abbrev c_Te_tellPlug : ByteArray := prog_11_method_5_code
def y_Te_tellPlug : MethodName := ⟨"LastJars$Teller", "tellPlug", "(LLastJars$Jar;)I"⟩
theorem k_Te_tellPlug : YI y_Te_tellPlug c_Te_tellPlug 3 (some .int) 1 := ⟨inGW (i := 708) (by decide +kernel) (by decide +kernel), ii_Te, by decide +kernel, by decide +kernel⟩
theorem ki_Te_tellPlug : Cond.instanceMethod y_Te_tellPlug ∈ GW := inGW (i := 706) (by decide +kernel) (by decide +kernel)
theorem kv_Te_tellPlug : Cond.selects "LastJars$Teller" y_Te_tellPlug y_Te_tellPlug ∈ GW := inGW (i := 707) (by decide +kernel) (by decide +kernel)
abbrev c_Te_sniffLent : ByteArray := prog_11_method_6_code
def y_Te_sniffLent : MethodName := ⟨"LastJars$Teller", "sniffLent", "(I)I"⟩
theorem k_Te_sniffLent : YI y_Te_sniffLent c_Te_sniffLent 2 (some .int) 1 := ⟨inGW (i := 721) (by decide +kernel) (by decide +kernel), ii_Te, by decide +kernel, by decide +kernel⟩
theorem ki_Te_sniffLent : Cond.instanceMethod y_Te_sniffLent ∈ GW := inGW (i := 719) (by decide +kernel) (by decide +kernel)
theorem kv_Te_sniffLent : Cond.selects "LastJars$Teller" y_Te_sniffLent y_Te_sniffLent ∈ GW := inGW (i := 720) (by decide +kernel) (by decide +kernel)
abbrev c_Te_sniffPlug : ByteArray := prog_11_method_7_code
def y_Te_sniffPlug : MethodName := ⟨"LastJars$Teller", "sniffPlug", "()I"⟩
theorem k_Te_sniffPlug : YI y_Te_sniffPlug c_Te_sniffPlug 1 (some .int) 0 := ⟨inGW (i := 717) (by decide +kernel) (by decide +kernel), ii_Te, by decide +kernel, by decide +kernel⟩
theorem ki_Te_sniffPlug : Cond.instanceMethod y_Te_sniffPlug ∈ GW := inGW (i := 715) (by decide +kernel) (by decide +kernel)
theorem kv_Te_sniffPlug : Cond.selects "LastJars$Teller" y_Te_sniffPlug y_Te_sniffPlug ∈ GW := inGW (i := 716) (by decide +kernel) (by decide +kernel)
abbrev c_Tx_firstFault : ByteArray := prog_12_method_2_code
def y_Tx_firstFault : MethodName := ⟨"LastJars$Text", "firstFault", "(LLastJars$Sheet;II)I"⟩
theorem k_Tx_firstFault : YI y_Tx_firstFault c_Tx_firstFault 7 (some .int) 3 := ⟨inGW (i := 318) (by decide +kernel) (by decide +kernel), ii_Tx, by decide +kernel, by decide +kernel⟩
theorem ks_Tx_firstFault : Cond.static y_Tx_firstFault ∈ GW := inGW (i := 317) (by decide +kernel) (by decide +kernel)
abbrev c_Tx_startsWith : ByteArray := prog_12_method_3_code
def y_Tx_startsWith : MethodName := ⟨"LastJars$Text", "startsWith", "(LLastJars$Sheet;IIIC)Z"⟩
theorem k_Tx_startsWith : YI y_Tx_startsWith c_Tx_startsWith 5 (some .boolean) 5 := ⟨inGW (i := 326) (by decide +kernel) (by decide +kernel), ii_Tx, by decide +kernel, by decide +kernel⟩
theorem ks_Tx_startsWith : Cond.static y_Tx_startsWith ∈ GW := inGW (i := 325) (by decide +kernel) (by decide +kernel)
abbrev c_Tx_fitting : ByteArray := prog_12_method_4_code
def y_Tx_fitting : MethodName := ⟨"LastJars$Text", "fitting", "(LLastJars$Sheet;IIII)I"⟩
theorem k_Tx_fitting : YI y_Tx_fitting c_Tx_fitting 6 (some .int) 5 := ⟨inGW (i := 329) (by decide +kernel) (by decide +kernel), ii_Tx, by decide +kernel, by decide +kernel⟩
theorem ks_Tx_fitting : Cond.static y_Tx_fitting ∈ GW := inGW (i := 328) (by decide +kernel) (by decide +kernel)
abbrev c_Tx_kindOf : ByteArray := prog_12_method_5_code
def y_Tx_kindOf : MethodName := ⟨"LastJars$Text", "kindOf", "(I)I"⟩
theorem k_Tx_kindOf : YI y_Tx_kindOf c_Tx_kindOf 1 (some .int) 1 := ⟨inGW (i := 332) (by decide +kernel) (by decide +kernel), ii_Tx, by decide +kernel, by decide +kernel⟩
theorem ks_Tx_kindOf : Cond.static y_Tx_kindOf ∈ GW := inGW (i := 331) (by decide +kernel) (by decide +kernel)
abbrev c_Tx_fill : ByteArray := prog_12_method_6_code
def y_Tx_fill : MethodName := ⟨"LastJars$Text", "fill", "(LLastJars$Sheet;IILLastJars$Shop;)V"⟩
theorem k_Tx_fill : YI y_Tx_fill c_Tx_fill 5 none 4 := ⟨inGW (i := 336) (by decide +kernel) (by decide +kernel), ii_Tx, by decide +kernel, by decide +kernel⟩
theorem ks_Tx_fill : Cond.static y_Tx_fill ∈ GW := inGW (i := 335) (by decide +kernel) (by decide +kernel)
abbrev c_Tx_fillJar : ByteArray := prog_12_method_7_code
def y_Tx_fillJar : MethodName := ⟨"LastJars$Text", "fillJar", "(LLastJars$Sheet;ILLastJars$Jar;)V"⟩
theorem k_Tx_fillJar : YI y_Tx_fillJar c_Tx_fillJar 3 none 3 := ⟨inGW (i := 339) (by decide +kernel) (by decide +kernel), ii_Tx, by decide +kernel, by decide +kernel⟩
theorem ks_Tx_fillJar : Cond.static y_Tx_fillJar ∈ GW := inGW (i := 338) (by decide +kernel) (by decide +kernel)
abbrev c_Tx_fillDecider : ByteArray := prog_12_method_8_code
def y_Tx_fillDecider : MethodName := ⟨"LastJars$Text", "fillDecider", "(LLastJars$Sheet;ILLastJars$Decider;)V"⟩
theorem k_Tx_fillDecider : YI y_Tx_fillDecider c_Tx_fillDecider 3 none 3 := ⟨inGW (i := 342) (by decide +kernel) (by decide +kernel), ii_Tx, by decide +kernel, by decide +kernel⟩
theorem ks_Tx_fillDecider : Cond.static y_Tx_fillDecider ∈ GW := inGW (i := 341) (by decide +kernel) (by decide +kernel)
abbrev c_LJ_init : ByteArray := prog_1_method_1_code
def y_LJ_init : MethodName := ⟨"LastJars", "<init>", "()V"⟩
theorem k_LJ_init : YI y_LJ_init c_LJ_init 2 none 0 := ⟨inGW (i := 70) (by decide +kernel) (by decide +kernel), ii_LJ, by decide +kernel, by decide +kernel⟩
theorem ki_LJ_init : Cond.instanceMethod y_LJ_init ∈ GW := inGW (i := 69) (by decide +kernel) (by decide +kernel)
abbrev c_LJ_store : ByteArray := prog_1_method_2_code
def y_LJ_store : MethodName := ⟨"LastJars", "store", "(IIII)I"⟩
theorem k_LJ_store : YI y_LJ_store c_LJ_store 8 (some .int) 4 := ⟨inGW (i := 292) (by decide +kernel) (by decide +kernel), ii_LJ, by decide +kernel, by decide +kernel⟩
theorem ki_LJ_store : Cond.instanceMethod y_LJ_store ∈ GW := inGW (i := 290) (by decide +kernel) (by decide +kernel)
theorem kv_LJ_store : Cond.selects "LastJars" y_LJ_store y_LJ_store ∈ GW := inGW (i := 291) (by decide +kernel) (by decide +kernel)
abbrev c_LJ_ofJar : ByteArray := prog_1_method_3_code
def y_LJ_ofJar : MethodName := ⟨"LastJars", "ofJar", "(II)I"⟩
theorem k_LJ_ofJar : YI y_LJ_ofJar c_LJ_ofJar 4 (some .int) 2 := ⟨inGW (i := 346) (by decide +kernel) (by decide +kernel), ii_LJ, by decide +kernel, by decide +kernel⟩
theorem ki_LJ_ofJar : Cond.instanceMethod y_LJ_ofJar ∈ GW := inGW (i := 344) (by decide +kernel) (by decide +kernel)
theorem kv_LJ_ofJar : Cond.selects "LastJars" y_LJ_ofJar y_LJ_ofJar ∈ GW := inGW (i := 345) (by decide +kernel) (by decide +kernel)
abbrev c_LJ_ofDecider : ByteArray := prog_1_method_4_code
def y_LJ_ofDecider : MethodName := ⟨"LastJars", "ofDecider", "(II)I"⟩
theorem k_LJ_ofDecider : YI y_LJ_ofDecider c_LJ_ofDecider 4 (some .int) 2 := ⟨inGW (i := 370) (by decide +kernel) (by decide +kernel), ii_LJ, by decide +kernel, by decide +kernel⟩
theorem ki_LJ_ofDecider : Cond.instanceMethod y_LJ_ofDecider ∈ GW := inGW (i := 368) (by decide +kernel) (by decide +kernel)
theorem kv_LJ_ofDecider : Cond.selects "LastJars" y_LJ_ofDecider y_LJ_ofDecider ∈ GW := inGW (i := 369) (by decide +kernel) (by decide +kernel)
abbrev c_LJ_cure : ByteArray := prog_1_method_5_code
def y_LJ_cure : MethodName := ⟨"LastJars", "cure", "(II)I"⟩
theorem k_LJ_cure : YI y_LJ_cure c_LJ_cure 3 (some .int) 2 := ⟨inGW (i := 382) (by decide +kernel) (by decide +kernel), ii_LJ, by decide +kernel, by decide +kernel⟩
theorem ki_LJ_cure : Cond.instanceMethod y_LJ_cure ∈ GW := inGW (i := 380) (by decide +kernel) (by decide +kernel)
theorem kv_LJ_cure : Cond.selects "LastJars" y_LJ_cure y_LJ_cure ∈ GW := inGW (i := 381) (by decide +kernel) (by decide +kernel)
abbrev c_LJ_fetch : ByteArray := prog_1_method_6_code
def y_LJ_fetch : MethodName := ⟨"LastJars", "fetch", "(II)I"⟩
theorem k_LJ_fetch : YI y_LJ_fetch c_LJ_fetch 3 (some .int) 2 := ⟨inGW (i := 394) (by decide +kernel) (by decide +kernel), ii_LJ, by decide +kernel, by decide +kernel⟩
theorem ki_LJ_fetch : Cond.instanceMethod y_LJ_fetch ∈ GW := inGW (i := 392) (by decide +kernel) (by decide +kernel)
theorem kv_LJ_fetch : Cond.selects "LastJars" y_LJ_fetch y_LJ_fetch ∈ GW := inGW (i := 393) (by decide +kernel) (by decide +kernel)
abbrev c_LJ_price : ByteArray := prog_1_method_7_code
def y_LJ_price : MethodName := ⟨"LastJars", "price", "(II)I"⟩
theorem k_LJ_price : YI y_LJ_price c_LJ_price 3 (some .int) 2 := ⟨inGW (i := 398) (by decide +kernel) (by decide +kernel), ii_LJ, by decide +kernel, by decide +kernel⟩
theorem ki_LJ_price : Cond.instanceMethod y_LJ_price ∈ GW := inGW (i := 396) (by decide +kernel) (by decide +kernel)
theorem kv_LJ_price : Cond.selects "LastJars" y_LJ_price y_LJ_price ∈ GW := inGW (i := 397) (by decide +kernel) (by decide +kernel)
abbrev c_LJ_dread : ByteArray := prog_1_method_8_code
def y_LJ_dread : MethodName := ⟨"LastJars", "dread", "(II)I"⟩
theorem k_LJ_dread : YI y_LJ_dread c_LJ_dread 3 (some .int) 2 := ⟨inGW (i := 402) (by decide +kernel) (by decide +kernel), ii_LJ, by decide +kernel, by decide +kernel⟩
theorem ki_LJ_dread : Cond.instanceMethod y_LJ_dread ∈ GW := inGW (i := 400) (by decide +kernel) (by decide +kernel)
theorem kv_LJ_dread : Cond.selects "LastJars" y_LJ_dread y_LJ_dread ∈ GW := inGW (i := 401) (by decide +kernel) (by decide +kernel)
abbrev c_LJ_pay : ByteArray := prog_1_method_9_code
def y_LJ_pay : MethodName := ⟨"LastJars", "pay", "(II)I"⟩
theorem k_LJ_pay : YI y_LJ_pay c_LJ_pay 3 (some .int) 2 := ⟨inGW (i := 414) (by decide +kernel) (by decide +kernel), ii_LJ, by decide +kernel, by decide +kernel⟩
theorem ki_LJ_pay : Cond.instanceMethod y_LJ_pay ∈ GW := inGW (i := 412) (by decide +kernel) (by decide +kernel)
theorem kv_LJ_pay : Cond.selects "LastJars" y_LJ_pay y_LJ_pay ∈ GW := inGW (i := 413) (by decide +kernel) (by decide +kernel)
abbrev c_LJ_mark : ByteArray := prog_1_method_10_code
def y_LJ_mark : MethodName := ⟨"LastJars", "mark", "(II)I"⟩
theorem k_LJ_mark : YI y_LJ_mark c_LJ_mark 4 (some .int) 2 := ⟨inGW (i := 418) (by decide +kernel) (by decide +kernel), ii_LJ, by decide +kernel, by decide +kernel⟩
theorem ki_LJ_mark : Cond.instanceMethod y_LJ_mark ∈ GW := inGW (i := 416) (by decide +kernel) (by decide +kernel)
theorem kv_LJ_mark : Cond.selects "LastJars" y_LJ_mark y_LJ_mark ∈ GW := inGW (i := 417) (by decide +kernel) (by decide +kernel)
abbrev c_LJ_blend : ByteArray := prog_1_method_11_code
def y_LJ_blend : MethodName := ⟨"LastJars", "blend", "(II)I"⟩
theorem k_LJ_blend : YI y_LJ_blend c_LJ_blend 3 (some .int) 2 := ⟨inGW (i := 423) (by decide +kernel) (by decide +kernel), ii_LJ, by decide +kernel, by decide +kernel⟩
theorem ki_LJ_blend : Cond.instanceMethod y_LJ_blend ∈ GW := inGW (i := 421) (by decide +kernel) (by decide +kernel)
theorem kv_LJ_blend : Cond.selects "LastJars" y_LJ_blend y_LJ_blend ∈ GW := inGW (i := 422) (by decide +kernel) (by decide +kernel)
abbrev c_LJ_hold : ByteArray := prog_1_method_12_code
def y_LJ_hold : MethodName := ⟨"LastJars", "hold", "(II)I"⟩
theorem k_LJ_hold : YI y_LJ_hold c_LJ_hold 3 (some .int) 2 := ⟨inGW (i := 444) (by decide +kernel) (by decide +kernel), ii_LJ, by decide +kernel, by decide +kernel⟩
theorem ki_LJ_hold : Cond.instanceMethod y_LJ_hold ∈ GW := inGW (i := 442) (by decide +kernel) (by decide +kernel)
theorem kv_LJ_hold : Cond.selects "LastJars" y_LJ_hold y_LJ_hold ∈ GW := inGW (i := 443) (by decide +kernel) (by decide +kernel)
abbrev c_LJ_sell : ByteArray := prog_1_method_13_code
def y_LJ_sell : MethodName := ⟨"LastJars", "sell", "(II)I"⟩
theorem k_LJ_sell : YI y_LJ_sell c_LJ_sell 5 (some .int) 2 := ⟨inGW (i := 453) (by decide +kernel) (by decide +kernel), ii_LJ, by decide +kernel, by decide +kernel⟩
theorem ki_LJ_sell : Cond.instanceMethod y_LJ_sell ∈ GW := inGW (i := 451) (by decide +kernel) (by decide +kernel)
theorem kv_LJ_sell : Cond.selects "LastJars" y_LJ_sell y_LJ_sell ∈ GW := inGW (i := 452) (by decide +kernel) (by decide +kernel)
abbrev c_LJ_year : ByteArray := prog_1_method_14_code
def y_LJ_year : MethodName := ⟨"LastJars", "year", "(IIIII)I"⟩
theorem k_LJ_year : YI y_LJ_year c_LJ_year 8 (some .int) 5 := ⟨inGW (i := 462) (by decide +kernel) (by decide +kernel), ii_LJ, by decide +kernel, by decide +kernel⟩
theorem ki_LJ_year : Cond.instanceMethod y_LJ_year ∈ GW := inGW (i := 460) (by decide +kernel) (by decide +kernel)
theorem kv_LJ_year : Cond.selects "LastJars" y_LJ_year y_LJ_year ∈ GW := inGW (i := 461) (by decide +kernel) (by decide +kernel)
abbrev c_LJ_mix : ByteArray := prog_1_method_15_code
def y_LJ_mix : MethodName := ⟨"LastJars", "mix", "(II)I"⟩
theorem k_LJ_mix : YI y_LJ_mix c_LJ_mix 5 (some .int) 2 := ⟨inGW (i := 507) (by decide +kernel) (by decide +kernel), ii_LJ, by decide +kernel, by decide +kernel⟩
theorem ki_LJ_mix : Cond.instanceMethod y_LJ_mix ∈ GW := inGW (i := 505) (by decide +kernel) (by decide +kernel)
theorem kv_LJ_mix : Cond.selects "LastJars" y_LJ_mix y_LJ_mix ∈ GW := inGW (i := 506) (by decide +kernel) (by decide +kernel)
abbrev c_LJ_like : ByteArray := prog_1_method_16_code
def y_LJ_like : MethodName := ⟨"LastJars", "like", "(I)I"⟩
theorem k_LJ_like : YI y_LJ_like c_LJ_like 2 (some .int) 1 := ⟨inGW (i := 533) (by decide +kernel) (by decide +kernel), ii_LJ, by decide +kernel, by decide +kernel⟩
theorem ki_LJ_like : Cond.instanceMethod y_LJ_like ∈ GW := inGW (i := 531) (by decide +kernel) (by decide +kernel)
theorem kv_LJ_like : Cond.selects "LastJars" y_LJ_like y_LJ_like ∈ GW := inGW (i := 532) (by decide +kernel) (by decide +kernel)
abbrev c_LJ_guess : ByteArray := prog_1_method_17_code
def y_LJ_guess : MethodName := ⟨"LastJars", "guess", "(IIIII)I"⟩
theorem k_LJ_guess : YI y_LJ_guess c_LJ_guess 8 (some .int) 5 := ⟨inGW (i := 543) (by decide +kernel) (by decide +kernel), ii_LJ, by decide +kernel, by decide +kernel⟩
theorem ki_LJ_guess : Cond.instanceMethod y_LJ_guess ∈ GW := inGW (i := 541) (by decide +kernel) (by decide +kernel)
theorem kv_LJ_guess : Cond.selects "LastJars" y_LJ_guess y_LJ_guess ∈ GW := inGW (i := 542) (by decide +kernel) (by decide +kernel)
abbrev c_LJ_serve : ByteArray := prog_1_method_18_code
def y_LJ_serve : MethodName := ⟨"LastJars", "serve", "(I)I"⟩
theorem k_LJ_serve : YI y_LJ_serve c_LJ_serve 2 (some .int) 1 := ⟨inGW (i := 563) (by decide +kernel) (by decide +kernel), ii_LJ, by decide +kernel, by decide +kernel⟩
theorem ki_LJ_serve : Cond.instanceMethod y_LJ_serve ∈ GW := inGW (i := 561) (by decide +kernel) (by decide +kernel)
theorem kv_LJ_serve : Cond.selects "LastJars" y_LJ_serve y_LJ_serve ∈ GW := inGW (i := 562) (by decide +kernel) (by decide +kernel)
abbrev c_LJ_dear : ByteArray := prog_1_method_19_code
def y_LJ_dear : MethodName := ⟨"LastJars", "dear", "(I)I"⟩
theorem k_LJ_dear : YI y_LJ_dear c_LJ_dear 3 (some .int) 1 := ⟨inGW (i := 595) (by decide +kernel) (by decide +kernel), ii_LJ, by decide +kernel, by decide +kernel⟩
theorem ki_LJ_dear : Cond.instanceMethod y_LJ_dear ∈ GW := inGW (i := 593) (by decide +kernel) (by decide +kernel)
theorem kv_LJ_dear : Cond.selects "LastJars" y_LJ_dear y_LJ_dear ∈ GW := inGW (i := 594) (by decide +kernel) (by decide +kernel)
abbrev c_LJ_reading : ByteArray := prog_1_method_20_code
def y_LJ_reading : MethodName := ⟨"LastJars", "reading", "(III)I"⟩
theorem k_LJ_reading : YI y_LJ_reading c_LJ_reading 4 (some .int) 3 := ⟨inGW (i := 603) (by decide +kernel) (by decide +kernel), ii_LJ, by decide +kernel, by decide +kernel⟩
theorem ki_LJ_reading : Cond.instanceMethod y_LJ_reading ∈ GW := inGW (i := 601) (by decide +kernel) (by decide +kernel)
theorem kv_LJ_reading : Cond.selects "LastJars" y_LJ_reading y_LJ_reading ∈ GW := inGW (i := 602) (by decide +kernel) (by decide +kernel)
abbrev c_LJ_back : ByteArray := prog_1_method_21_code
def y_LJ_back : MethodName := ⟨"LastJars", "back", "(I)I"⟩
theorem k_LJ_back : YI y_LJ_back c_LJ_back 2 (some .int) 1 := ⟨inGW (i := 611) (by decide +kernel) (by decide +kernel), ii_LJ, by decide +kernel, by decide +kernel⟩
theorem ki_LJ_back : Cond.instanceMethod y_LJ_back ∈ GW := inGW (i := 609) (by decide +kernel) (by decide +kernel)
theorem kv_LJ_back : Cond.selects "LastJars" y_LJ_back y_LJ_back ∈ GW := inGW (i := 610) (by decide +kernel) (by decide +kernel)
abbrev c_LJ_sures : ByteArray := prog_1_method_22_code
def y_LJ_sures : MethodName := ⟨"LastJars", "sures", "(I)I"⟩
theorem k_LJ_sures : YI y_LJ_sures c_LJ_sures 2 (some .int) 1 := ⟨inGW (i := 615) (by decide +kernel) (by decide +kernel), ii_LJ, by decide +kernel, by decide +kernel⟩
theorem ki_LJ_sures : Cond.instanceMethod y_LJ_sures ∈ GW := inGW (i := 613) (by decide +kernel) (by decide +kernel)
theorem kv_LJ_sures : Cond.selects "LastJars" y_LJ_sures y_LJ_sures ∈ GW := inGW (i := 614) (by decide +kernel) (by decide +kernel)
abbrev c_LJ_fades : ByteArray := prog_1_method_23_code
def y_LJ_fades : MethodName := ⟨"LastJars", "fades", "(I)I"⟩
theorem k_LJ_fades : YI y_LJ_fades c_LJ_fades 2 (some .int) 1 := ⟨inGW (i := 629) (by decide +kernel) (by decide +kernel), ii_LJ, by decide +kernel, by decide +kernel⟩
theorem ki_LJ_fades : Cond.instanceMethod y_LJ_fades ∈ GW := inGW (i := 627) (by decide +kernel) (by decide +kernel)
theorem kv_LJ_fades : Cond.selects "LastJars" y_LJ_fades y_LJ_fades ∈ GW := inGW (i := 628) (by decide +kernel) (by decide +kernel)
abbrev c_LJ_kinds : ByteArray := prog_1_method_24_code
def y_LJ_kinds : MethodName := ⟨"LastJars", "kinds", "(I)I"⟩
theorem k_LJ_kinds : YI y_LJ_kinds c_LJ_kinds 2 (some .int) 1 := ⟨inGW (i := 633) (by decide +kernel) (by decide +kernel), ii_LJ, by decide +kernel, by decide +kernel⟩
theorem ki_LJ_kinds : Cond.instanceMethod y_LJ_kinds ∈ GW := inGW (i := 631) (by decide +kernel) (by decide +kernel)
theorem kv_LJ_kinds : Cond.selects "LastJars" y_LJ_kinds y_LJ_kinds ∈ GW := inGW (i := 632) (by decide +kernel) (by decide +kernel)
abbrev c_LJ_odds : ByteArray := prog_1_method_25_code
def y_LJ_odds : MethodName := ⟨"LastJars", "odds", "(II)J"⟩
theorem k_LJ_odds : YI y_LJ_odds c_LJ_odds 7 (some .long) 2 := ⟨inGW (i := 637) (by decide +kernel) (by decide +kernel), ii_LJ, by decide +kernel, by decide +kernel⟩
theorem ki_LJ_odds : Cond.instanceMethod y_LJ_odds ∈ GW := inGW (i := 635) (by decide +kernel) (by decide +kernel)
theorem kv_LJ_odds : Cond.selects "LastJars" y_LJ_odds y_LJ_odds ∈ GW := inGW (i := 636) (by decide +kernel) (by decide +kernel)
abbrev c_LJ_sheet : ByteArray := prog_1_method_26_code
def y_LJ_sheet : MethodName := ⟨"LastJars", "sheet", "(III)I"⟩
theorem k_LJ_sheet : YI y_LJ_sheet c_LJ_sheet 5 (some .int) 3 := ⟨inGW (i := 651) (by decide +kernel) (by decide +kernel), ii_LJ, by decide +kernel, by decide +kernel⟩
theorem ki_LJ_sheet : Cond.instanceMethod y_LJ_sheet ∈ GW := inGW (i := 649) (by decide +kernel) (by decide +kernel)
theorem kv_LJ_sheet : Cond.selects "LastJars" y_LJ_sheet y_LJ_sheet ∈ GW := inGW (i := 650) (by decide +kernel) (by decide +kernel)
abbrev c_LJ_lose : ByteArray := prog_1_method_27_code
def y_LJ_lose : MethodName := ⟨"LastJars", "lose", "(I)I"⟩
theorem k_LJ_lose : YI y_LJ_lose c_LJ_lose 4 (some .int) 1 := ⟨inGW (i := 662) (by decide +kernel) (by decide +kernel), ii_LJ, by decide +kernel, by decide +kernel⟩
theorem ki_LJ_lose : Cond.instanceMethod y_LJ_lose ∈ GW := inGW (i := 660) (by decide +kernel) (by decide +kernel)
theorem kv_LJ_lose : Cond.selects "LastJars" y_LJ_lose y_LJ_lose ∈ GW := inGW (i := 661) (by decide +kernel) (by decide +kernel)
abbrev c_LJ_put : ByteArray := prog_1_method_28_code
def y_LJ_put : MethodName := ⟨"LastJars", "put", "(III)I"⟩
theorem k_LJ_put : YI y_LJ_put c_LJ_put 6 (some .int) 3 := ⟨inGW (i := 666) (by decide +kernel) (by decide +kernel), ii_LJ, by decide +kernel, by decide +kernel⟩
theorem ki_LJ_put : Cond.instanceMethod y_LJ_put ∈ GW := inGW (i := 664) (by decide +kernel) (by decide +kernel)
theorem kv_LJ_put : Cond.selects "LastJars" y_LJ_put y_LJ_put ∈ GW := inGW (i := 665) (by decide +kernel) (by decide +kernel)
abbrev c_LJ_cell : ByteArray := prog_1_method_29_code
def y_LJ_cell : MethodName := ⟨"LastJars", "cell", "(III)J"⟩
theorem k_LJ_cell : YI y_LJ_cell c_LJ_cell 5 (some .long) 3 := ⟨inGW (i := 678) (by decide +kernel) (by decide +kernel), ii_LJ, by decide +kernel, by decide +kernel⟩
theorem ki_LJ_cell : Cond.instanceMethod y_LJ_cell ∈ GW := inGW (i := 676) (by decide +kernel) (by decide +kernel)
theorem kv_LJ_cell : Cond.selects "LastJars" y_LJ_cell y_LJ_cell ∈ GW := inGW (i := 677) (by decide +kernel) (by decide +kernel)
abbrev c_LJ_copy : ByteArray := prog_1_method_30_code
def y_LJ_copy : MethodName := ⟨"LastJars", "copy", "(IIIII)I"⟩
theorem k_LJ_copy : YI y_LJ_copy c_LJ_copy 8 (some .int) 5 := ⟨inGW (i := 683) (by decide +kernel) (by decide +kernel), ii_LJ, by decide +kernel, by decide +kernel⟩
theorem ki_LJ_copy : Cond.instanceMethod y_LJ_copy ∈ GW := inGW (i := 681) (by decide +kernel) (by decide +kernel)
theorem kv_LJ_copy : Cond.selects "LastJars" y_LJ_copy y_LJ_copy ∈ GW := inGW (i := 682) (by decide +kernel) (by decide +kernel)
abbrev c_LJ_tell : ByteArray := prog_1_method_31_code
def y_LJ_tell : MethodName := ⟨"LastJars", "tell", "(I)I"⟩
theorem k_LJ_tell : YI y_LJ_tell c_LJ_tell 3 (some .int) 1 := ⟨inGW (i := 691) (by decide +kernel) (by decide +kernel), ii_LJ, by decide +kernel, by decide +kernel⟩
theorem ki_LJ_tell : Cond.instanceMethod y_LJ_tell ∈ GW := inGW (i := 689) (by decide +kernel) (by decide +kernel)
theorem kv_LJ_tell : Cond.selects "LastJars" y_LJ_tell y_LJ_tell ∈ GW := inGW (i := 690) (by decide +kernel) (by decide +kernel)
abbrev c_LJ_sniff : ByteArray := prog_1_method_32_code
def y_LJ_sniff : MethodName := ⟨"LastJars", "sniff", "(I)I"⟩
theorem k_LJ_sniff : YI y_LJ_sniff c_LJ_sniff 3 (some .int) 1 := ⟨inGW (i := 713) (by decide +kernel) (by decide +kernel), ii_LJ, by decide +kernel, by decide +kernel⟩
theorem ki_LJ_sniff : Cond.instanceMethod y_LJ_sniff ∈ GW := inGW (i := 711) (by decide +kernel) (by decide +kernel)
theorem kv_LJ_sniff : Cond.selects "LastJars" y_LJ_sniff y_LJ_sniff ∈ GW := inGW (i := 712) (by decide +kernel) (by decide +kernel)
abbrev c_LJ_as : ByteArray := prog_1_method_33_code
def y_LJ_as : MethodName := ⟨"LastJars", "as", "(II)I"⟩
theorem k_LJ_as : YI y_LJ_as c_LJ_as 4 (some .int) 2 := ⟨inGW (i := 725) (by decide +kernel) (by decide +kernel), ii_LJ, by decide +kernel, by decide +kernel⟩
theorem ki_LJ_as : Cond.instanceMethod y_LJ_as ∈ GW := inGW (i := 723) (by decide +kernel) (by decide +kernel)
theorem kv_LJ_as : Cond.selects "LastJars" y_LJ_as y_LJ_as ∈ GW := inGW (i := 724) (by decide +kernel) (by decide +kernel)
abbrev c_LJ_trace : ByteArray := prog_1_method_34_code
def y_LJ_trace : MethodName := ⟨"LastJars", "trace", "()I"⟩
theorem k_LJ_trace : YI y_LJ_trace c_LJ_trace 1 (some .int) 0 := ⟨inGW (i := 729) (by decide +kernel) (by decide +kernel), ii_LJ, by decide +kernel, by decide +kernel⟩
theorem ki_LJ_trace : Cond.instanceMethod y_LJ_trace ∈ GW := inGW (i := 727) (by decide +kernel) (by decide +kernel)
theorem kv_LJ_trace : Cond.selects "LastJars" y_LJ_trace y_LJ_trace ∈ GW := inGW (i := 728) (by decide +kernel) (by decide +kernel)
abbrev c_LJ_fault : ByteArray := prog_1_method_35_code
def y_LJ_fault : MethodName := ⟨"LastJars", "fault", "()I"⟩
theorem k_LJ_fault : YI y_LJ_fault c_LJ_fault 1 (some .int) 0 := ⟨inGW (i := 733) (by decide +kernel) (by decide +kernel), ii_LJ, by decide +kernel, by decide +kernel⟩
theorem ki_LJ_fault : Cond.instanceMethod y_LJ_fault ∈ GW := inGW (i := 731) (by decide +kernel) (by decide +kernel)
theorem kv_LJ_fault : Cond.selects "LastJars" y_LJ_fault y_LJ_fault ∈ GW := inGW (i := 732) (by decide +kernel) (by decide +kernel)
abbrev c_LJ_many : ByteArray := prog_1_method_36_code
def y_LJ_many : MethodName := ⟨"LastJars", "many", "(I)I"⟩
theorem k_LJ_many : YI y_LJ_many c_LJ_many 2 (some .int) 1 := ⟨inGW (i := 737) (by decide +kernel) (by decide +kernel), ii_LJ, by decide +kernel, by decide +kernel⟩
theorem ki_LJ_many : Cond.instanceMethod y_LJ_many ∈ GW := inGW (i := 735) (by decide +kernel) (by decide +kernel)
theorem kv_LJ_many : Cond.selects "LastJars" y_LJ_many y_LJ_many ∈ GW := inGW (i := 736) (by decide +kernel) (by decide +kernel)
abbrev c_LJ_sheetAt : ByteArray := prog_1_method_37_code
def y_LJ_sheetAt : MethodName := ⟨"LastJars", "sheetAt", "(I)LLastJars$Sheet;"⟩
theorem k_LJ_sheetAt : YI y_LJ_sheetAt c_LJ_sheetAt 2 (some (.object "LastJars$Sheet")) 1 := ⟨inGW (i := 296) (by decide +kernel) (by decide +kernel), ii_LJ, by decide +kernel, by decide +kernel⟩
theorem ki_LJ_sheetAt : Cond.instanceMethod y_LJ_sheetAt ∈ GW := inGW (i := 295) (by decide +kernel) (by decide +kernel)
theorem kv_LJ_sheetAt : Cond.selects "LastJars" y_LJ_sheetAt y_LJ_sheetAt ∈ GW := inGW (i := 0) (by decide +kernel) (by decide +kernel)
abbrev c_LJ_changeJar : ByteArray := prog_1_method_38_code
def y_LJ_changeJar : MethodName := ⟨"LastJars", "changeJar", "(III)I"⟩
theorem k_LJ_changeJar : YI y_LJ_changeJar c_LJ_changeJar 6 (some .int) 3 := ⟨inGW (i := 386) (by decide +kernel) (by decide +kernel), ii_LJ, by decide +kernel, by decide +kernel⟩
theorem ki_LJ_changeJar : Cond.instanceMethod y_LJ_changeJar ∈ GW := inGW (i := 385) (by decide +kernel) (by decide +kernel)
theorem kv_LJ_changeJar : Cond.selects "LastJars" y_LJ_changeJar y_LJ_changeJar ∈ GW := inGW (i := 4) (by decide +kernel) (by decide +kernel)
abbrev c_LJ_changeDecider : ByteArray := prog_1_method_39_code
def y_LJ_changeDecider : MethodName := ⟨"LastJars", "changeDecider", "(IIII)I"⟩
theorem k_LJ_changeDecider : YI y_LJ_changeDecider c_LJ_changeDecider 7 (some .int) 4 := ⟨inGW (i := 406) (by decide +kernel) (by decide +kernel), ii_LJ, by decide +kernel, by decide +kernel⟩
theorem ki_LJ_changeDecider : Cond.instanceMethod y_LJ_changeDecider ∈ GW := inGW (i := 405) (by decide +kernel) (by decide +kernel)
theorem kv_LJ_changeDecider : Cond.selects "LastJars" y_LJ_changeDecider y_LJ_changeDecider ∈ GW := inGW (i := 5) (by decide +kernel) (by decide +kernel)
abbrev c_LJ_possible : ByteArray := prog_1_method_40_code
def y_LJ_possible : MethodName := ⟨"LastJars", "possible", "(III)I"⟩
theorem k_LJ_possible : YI y_LJ_possible c_LJ_possible 8 (some .int) 3 := ⟨inGW (i := 619) (by decide +kernel) (by decide +kernel), ii_LJ, by decide +kernel, by decide +kernel⟩
theorem ki_LJ_possible : Cond.instanceMethod y_LJ_possible ∈ GW := inGW (i := 618) (by decide +kernel) (by decide +kernel)
theorem kv_LJ_possible : Cond.selects "LastJars" y_LJ_possible y_LJ_possible ∈ GW := inGW (i := 12) (by decide +kernel) (by decide +kernel)
abbrev c_LJ_refused : ByteArray := prog_1_method_41_code
def y_LJ_refused : MethodName := ⟨"LastJars", "refused", "(I)I"⟩
theorem k_LJ_refused : YI y_LJ_refused c_LJ_refused 2 (some .int) 1 := ⟨inGW (i := 303) (by decide +kernel) (by decide +kernel), ii_LJ, by decide +kernel, by decide +kernel⟩
theorem ki_LJ_refused : Cond.instanceMethod y_LJ_refused ∈ GW := inGW (i := 302) (by decide +kernel) (by decide +kernel)
theorem kv_LJ_refused : Cond.selects "LastJars" y_LJ_refused y_LJ_refused ∈ GW := inGW (i := 1) (by decide +kernel) (by decide +kernel)
abbrev c_LJ_failed : ByteArray := prog_1_method_42_code
def y_LJ_failed : MethodName := ⟨"LastJars", "failed", "(I)I"⟩
theorem k_LJ_failed : YI y_LJ_failed c_LJ_failed 2 (some .int) 1 := ⟨inGW (i := 315) (by decide +kernel) (by decide +kernel), ii_LJ, by decide +kernel, by decide +kernel⟩
theorem ki_LJ_failed : Cond.instanceMethod y_LJ_failed ∈ GW := inGW (i := 314) (by decide +kernel) (by decide +kernel)
theorem kv_LJ_failed : Cond.selects "LastJars" y_LJ_failed y_LJ_failed ∈ GW := inGW (i := 2) (by decide +kernel) (by decide +kernel)
abbrev c_LJ_isBelow : ByteArray := prog_1_method_43_code
def y_LJ_isBelow : MethodName := ⟨"LastJars", "isBelow", "(II)Z"⟩
theorem k_LJ_isBelow : YI y_LJ_isBelow c_LJ_isBelow 2 (some .boolean) 2 := ⟨inGW (i := 299) (by decide +kernel) (by decide +kernel), ii_LJ, by decide +kernel, by decide +kernel⟩
theorem ks_LJ_isBelow : Cond.static y_LJ_isBelow ∈ GW := inGW (i := 298) (by decide +kernel) (by decide +kernel)
abbrev c_Mo_init : ByteArray := prog_14_method_1_code
def y_Mo_init : MethodName := ⟨"LastJarsModel", "<init>", "()V"⟩
theorem k_Mo_init : YI y_Mo_init c_Mo_init 2 none 0 := ⟨inGW (i := 746) (by decide +kernel) (by decide +kernel), ii_Mo, by decide +kernel, by decide +kernel⟩
theorem ki_Mo_init : Cond.instanceMethod y_Mo_init ∈ GW := inGW (i := 745) (by decide +kernel) (by decide +kernel)
abbrev c_Mo_in : ByteArray := prog_14_method_2_code
def y_Mo_in : MethodName := ⟨"LastJarsModel", "in", "(JJJ)Z"⟩
theorem k_Mo_in : YI y_Mo_in c_Mo_in 6 (some .boolean) 3 := ⟨inGW (i := 867) (by decide +kernel) (by decide +kernel), ii_Mo, by decide +kernel, by decide +kernel⟩
theorem ks_Mo_in : Cond.static y_Mo_in ∈ GW := inGW (i := 866) (by decide +kernel) (by decide +kernel)
abbrev c_Mo_lost : ByteArray := prog_14_method_3_code
def y_Mo_lost : MethodName := ⟨"LastJarsModel", "lost", "()J"⟩
theorem k_Mo_lost : YI y_Mo_lost c_Mo_lost 0 (some .long) 0 := ⟨inGW (i := 1095) (by decide +kernel) (by decide +kernel), ii_Mo, by decide +kernel, by decide +kernel⟩
theorem ks_Mo_lost : Cond.static y_Mo_lost ∈ GW := inGW (i := 1094) (by decide +kernel) (by decide +kernel)
abbrev c_Mo_isIn : ByteArray := prog_14_method_4_code
def y_Mo_isIn : MethodName := ⟨"LastJarsModel", "isIn", "(II)Z"⟩
theorem k_Mo_isIn : YI y_Mo_isIn c_Mo_isIn 2 (some .boolean) 2 := ⟨inGW (i := 972) (by decide +kernel) (by decide +kernel), ii_Mo, by decide +kernel, by decide +kernel⟩
theorem ks_Mo_isIn : Cond.static y_Mo_isIn ∈ GW := inGW (i := 971) (by decide +kernel) (by decide +kernel)
abbrev c_Mo_bits : ByteArray := prog_14_method_5_code
def y_Mo_bits : MethodName := ⟨"LastJarsModel", "bits", "(I)I"⟩
theorem k_Mo_bits : YI y_Mo_bits c_Mo_bits 3 (some .int) 1 := ⟨inGW (i := 975) (by decide +kernel) (by decide +kernel), ii_Mo, by decide +kernel, by decide +kernel⟩
theorem ks_Mo_bits : Cond.static y_Mo_bits ∈ GW := inGW (i := 974) (by decide +kernel) (by decide +kernel)
abbrev c_Mo_share : ByteArray := prog_14_method_6_code
def y_Mo_share : MethodName := ⟨"LastJarsModel", "share", "(JJI)J"⟩
theorem k_Mo_share : YI y_Mo_share c_Mo_share 11 (some .long) 3 := ⟨inGW (i := 1099) (by decide +kernel) (by decide +kernel), ii_Mo, by decide +kernel, by decide +kernel⟩
theorem ks_Mo_share : Cond.static y_Mo_share ∈ GW := inGW (i := 1098) (by decide +kernel) (by decide +kernel)
abbrev c_Mo_refused : ByteArray := prog_14_method_7_code
def y_Mo_refused : MethodName := ⟨"LastJarsModel", "refused", "(I)I"⟩
theorem k_Mo_refused : YI y_Mo_refused c_Mo_refused 2 (some .int) 1 := ⟨inGW (i := 871) (by decide +kernel) (by decide +kernel), ii_Mo, by decide +kernel, by decide +kernel⟩
theorem ki_Mo_refused : Cond.instanceMethod y_Mo_refused ∈ GW := inGW (i := 870) (by decide +kernel) (by decide +kernel)
theorem kv_Mo_refused : Cond.selects "LastJarsModel" y_Mo_refused y_Mo_refused ∈ GW := inGW (i := 15) (by decide +kernel) (by decide +kernel)
abbrev c_Mo_failed : ByteArray := prog_14_method_8_code
def y_Mo_failed : MethodName := ⟨"LastJarsModel", "failed", "(I)I"⟩
theorem k_Mo_failed : YI y_Mo_failed c_Mo_failed 2 (some .int) 1 := ⟨inGW (i := 880) (by decide +kernel) (by decide +kernel), ii_Mo, by decide +kernel, by decide +kernel⟩
theorem ki_Mo_failed : Cond.instanceMethod y_Mo_failed ∈ GW := inGW (i := 879) (by decide +kernel) (by decide +kernel)
theorem kv_Mo_failed : Cond.selects "LastJarsModel" y_Mo_failed y_Mo_failed ∈ GW := inGW (i := 17) (by decide +kernel) (by decide +kernel)
abbrev c_Mo_failedLong : ByteArray := prog_14_method_9_code
def y_Mo_failedLong : MethodName := ⟨"LastJarsModel", "failedLong", "(I)J"⟩
theorem k_Mo_failedLong : YI y_Mo_failedLong c_Mo_failedLong 2 (some .long) 1 := ⟨inGW (i := 1123) (by decide +kernel) (by decide +kernel), ii_Mo, by decide +kernel, by decide +kernel⟩
theorem ki_Mo_failedLong : Cond.instanceMethod y_Mo_failedLong ∈ GW := inGW (i := 1122) (by decide +kernel) (by decide +kernel)
theorem kv_Mo_failedLong : Cond.selects "LastJarsModel" y_Mo_failedLong y_Mo_failedLong ∈ GW := inGW (i := 45) (by decide +kernel) (by decide +kernel)
abbrev c_Mo_noJar : ByteArray := prog_14_method_10_code
def y_Mo_noJar : MethodName := ⟨"LastJarsModel", "noJar", "(I)Z"⟩
theorem k_Mo_noJar : YI y_Mo_noJar c_Mo_noJar 2 (some .boolean) 1 := ⟨inGW (i := 912) (by decide +kernel) (by decide +kernel), ii_Mo, by decide +kernel, by decide +kernel⟩
theorem ki_Mo_noJar : Cond.instanceMethod y_Mo_noJar ∈ GW := inGW (i := 911) (by decide +kernel) (by decide +kernel)
theorem kv_Mo_noJar : Cond.selects "LastJarsModel" y_Mo_noJar y_Mo_noJar ∈ GW := inGW (i := 23) (by decide +kernel) (by decide +kernel)
abbrev c_Mo_noDecider : ByteArray := prog_14_method_11_code
def y_Mo_noDecider : MethodName := ⟨"LastJarsModel", "noDecider", "(I)Z"⟩
theorem k_Mo_noDecider : YI y_Mo_noDecider c_Mo_noDecider 2 (some .boolean) 1 := ⟨inGW (i := 932) (by decide +kernel) (by decide +kernel), ii_Mo, by decide +kernel, by decide +kernel⟩
theorem ki_Mo_noDecider : Cond.instanceMethod y_Mo_noDecider ∈ GW := inGW (i := 931) (by decide +kernel) (by decide +kernel)
theorem kv_Mo_noDecider : Cond.selects "LastJarsModel" y_Mo_noDecider y_Mo_noDecider ∈ GW := inGW (i := 27) (by decide +kernel) (by decide +kernel)
abbrev c_Mo_noBlend : ByteArray := prog_14_method_12_code
def y_Mo_noBlend : MethodName := ⟨"LastJarsModel", "noBlend", "(I)Z"⟩
theorem k_Mo_noBlend : YI y_Mo_noBlend c_Mo_noBlend 2 (some .boolean) 1 := ⟨inGW (i := 965) (by decide +kernel) (by decide +kernel), ii_Mo, by decide +kernel, by decide +kernel⟩
theorem ki_Mo_noBlend : Cond.instanceMethod y_Mo_noBlend ∈ GW := inGW (i := 964) (by decide +kernel) (by decide +kernel)
theorem kv_Mo_noBlend : Cond.selects "LastJarsModel" y_Mo_noBlend y_Mo_noBlend ∈ GW := inGW (i := 28) (by decide +kernel) (by decide +kernel)
abbrev c_Mo_codeAt : ByteArray := prog_14_method_13_code
def y_Mo_codeAt : MethodName := ⟨"LastJarsModel", "codeAt", "(II)I"⟩
theorem k_Mo_codeAt : YI y_Mo_codeAt c_Mo_codeAt 3 (some .int) 2 := ⟨inGW (i := 891) (by decide +kernel) (by decide +kernel), ii_Mo, by decide +kernel, by decide +kernel⟩
theorem ki_Mo_codeAt : Cond.instanceMethod y_Mo_codeAt ∈ GW := inGW (i := 890) (by decide +kernel) (by decide +kernel)
theorem kv_Mo_codeAt : Cond.selects "LastJarsModel" y_Mo_codeAt y_Mo_codeAt ∈ GW := inGW (i := 19) (by decide +kernel) (by decide +kernel)
abbrev c_Mo_figure : ByteArray := prog_14_method_14_code
def y_Mo_figure : MethodName := ⟨"LastJarsModel", "figure", "(III)I"⟩
theorem k_Mo_figure : YI y_Mo_figure c_Mo_figure 6 (some .int) 3 := ⟨inGW (i := 899) (by decide +kernel) (by decide +kernel), ii_Mo, by decide +kernel, by decide +kernel⟩
theorem ki_Mo_figure : Cond.instanceMethod y_Mo_figure ∈ GW := inGW (i := 898) (by decide +kernel) (by decide +kernel)
theorem kv_Mo_figure : Cond.selects "LastJarsModel" y_Mo_figure y_Mo_figure ∈ GW := inGW (i := 21) (by decide +kernel) (by decide +kernel)
abbrev c_Mo_readsJar : ByteArray := prog_14_method_15_code
def y_Mo_readsJar : MethodName := ⟨"LastJarsModel", "readsJar", "(II)Z"⟩
theorem k_Mo_readsJar : YI y_Mo_readsJar c_Mo_readsJar 8 (some .boolean) 2 := ⟨inGW (i := 895) (by decide +kernel) (by decide +kernel), ii_Mo, by decide +kernel, by decide +kernel⟩
theorem ki_Mo_readsJar : Cond.instanceMethod y_Mo_readsJar ∈ GW := inGW (i := 894) (by decide +kernel) (by decide +kernel)
theorem kv_Mo_readsJar : Cond.selects "LastJarsModel" y_Mo_readsJar y_Mo_readsJar ∈ GW := inGW (i := 20) (by decide +kernel) (by decide +kernel)
abbrev c_Mo_readsDecider : ByteArray := prog_14_method_16_code
def y_Mo_readsDecider : MethodName := ⟨"LastJarsModel", "readsDecider", "(II)Z"⟩
theorem k_Mo_readsDecider : YI y_Mo_readsDecider c_Mo_readsDecider 7 (some .boolean) 2 := ⟨inGW (i := 904) (by decide +kernel) (by decide +kernel), ii_Mo, by decide +kernel, by decide +kernel⟩
theorem ki_Mo_readsDecider : Cond.instanceMethod y_Mo_readsDecider ∈ GW := inGW (i := 903) (by decide +kernel) (by decide +kernel)
theorem kv_Mo_readsDecider : Cond.selects "LastJarsModel" y_Mo_readsDecider y_Mo_readsDecider ∈ GW := inGW (i := 22) (by decide +kernel) (by decide +kernel)
abbrev c_Mo_readsStore : ByteArray := prog_14_method_17_code
def y_Mo_readsStore : MethodName := ⟨"LastJarsModel", "readsStore", "(II)Z"⟩
theorem k_Mo_readsStore : YI y_Mo_readsStore c_Mo_readsStore 4 (some .boolean) 2 := ⟨inGW (i := 887) (by decide +kernel) (by decide +kernel), ii_Mo, by decide +kernel, by decide +kernel⟩
theorem ki_Mo_readsStore : Cond.instanceMethod y_Mo_readsStore ∈ GW := inGW (i := 886) (by decide +kernel) (by decide +kernel)
theorem kv_Mo_readsStore : Cond.selects "LastJarsModel" y_Mo_readsStore y_Mo_readsStore ∈ GW := inGW (i := 18) (by decide +kernel) (by decide +kernel)
abbrev c_Mo_cellsBarred : ByteArray := prog_14_method_18_code
def y_Mo_cellsBarred : MethodName := ⟨"LastJarsModel", "cellsBarred", "(IIIJ)I"⟩
theorem k_Mo_cellsBarred : YI y_Mo_cellsBarred c_Mo_cellsBarred 6 (some .int) 4 := ⟨inGW (i := 876) (by decide +kernel) (by decide +kernel), ii_Mo, by decide +kernel, by decide +kernel⟩
theorem ki_Mo_cellsBarred : Cond.instanceMethod y_Mo_cellsBarred ∈ GW := inGW (i := 875) (by decide +kernel) (by decide +kernel)
theorem kv_Mo_cellsBarred : Cond.selects "LastJarsModel" y_Mo_cellsBarred y_Mo_cellsBarred ∈ GW := inGW (i := 16) (by decide +kernel) (by decide +kernel)
abbrev c_Mo_store : ByteArray := prog_14_method_19_code
def y_Mo_store : MethodName := ⟨"LastJarsModel", "store", "(IIII)I"⟩
theorem k_Mo_store : YI y_Mo_store c_Mo_store 7 (some .int) 4 := ⟨inGW (i := 860) (by decide +kernel) (by decide +kernel), ii_Mo, by decide +kernel, by decide +kernel⟩
theorem ki_Mo_store : Cond.instanceMethod y_Mo_store ∈ GW := inGW (i := 858) (by decide +kernel) (by decide +kernel)
theorem kv_Mo_store : Cond.selects "LastJarsModel" y_Mo_store y_Mo_store ∈ GW := inGW (i := 859) (by decide +kernel) (by decide +kernel)
abbrev c_Mo_leafMark : ByteArray := prog_14_method_20_code
def y_Mo_leafMark : MethodName := ⟨"LastJarsModel", "leafMark", "(II)I"⟩
theorem k_Mo_leafMark : YI y_Mo_leafMark c_Mo_leafMark 4 (some .int) 2 := ⟨inGW (i := 924) (by decide +kernel) (by decide +kernel), ii_Mo, by decide +kernel, by decide +kernel⟩
theorem ki_Mo_leafMark : Cond.instanceMethod y_Mo_leafMark ∈ GW := inGW (i := 923) (by decide +kernel) (by decide +kernel)
theorem kv_Mo_leafMark : Cond.selects "LastJarsModel" y_Mo_leafMark y_Mo_leafMark ∈ GW := inGW (i := 26) (by decide +kernel) (by decide +kernel)
abbrev c_Mo_markOf : ByteArray := prog_14_method_21_code
def y_Mo_markOf : MethodName := ⟨"LastJarsModel", "markOf", "(II)I"⟩
theorem k_Mo_markOf : YI y_Mo_markOf c_Mo_markOf 4 (some .int) 2 := ⟨inGW (i := 920) (by decide +kernel) (by decide +kernel), ii_Mo, by decide +kernel, by decide +kernel⟩
theorem ki_Mo_markOf : Cond.instanceMethod y_Mo_markOf ∈ GW := inGW (i := 919) (by decide +kernel) (by decide +kernel)
theorem kv_Mo_markOf : Cond.selects "LastJarsModel" y_Mo_markOf y_Mo_markOf ∈ GW := inGW (i := 25) (by decide +kernel) (by decide +kernel)
abbrev c_Mo_greatestMark : ByteArray := prog_14_method_22_code
def y_Mo_greatestMark : MethodName := ⟨"LastJarsModel", "greatestMark", "(I)I"⟩
theorem k_Mo_greatestMark : YI y_Mo_greatestMark c_Mo_greatestMark 4 (some .int) 1 := ⟨inGW (i := 916) (by decide +kernel) (by decide +kernel), ii_Mo, by decide +kernel, by decide +kernel⟩
theorem ki_Mo_greatestMark : Cond.instanceMethod y_Mo_greatestMark ∈ GW := inGW (i := 915) (by decide +kernel) (by decide +kernel)
theorem kv_Mo_greatestMark : Cond.selects "LastJarsModel" y_Mo_greatestMark y_Mo_greatestMark ∈ GW := inGW (i := 24) (by decide +kernel) (by decide +kernel)
abbrev c_Mo_ofJar : ByteArray := prog_14_method_23_code
def y_Mo_ofJar : MethodName := ⟨"LastJarsModel", "ofJar", "(II)I"⟩
theorem k_Mo_ofJar : YI y_Mo_ofJar c_Mo_ofJar 3 (some .int) 2 := ⟨inGW (i := 908) (by decide +kernel) (by decide +kernel), ii_Mo, by decide +kernel, by decide +kernel⟩
theorem ki_Mo_ofJar : Cond.instanceMethod y_Mo_ofJar ∈ GW := inGW (i := 906) (by decide +kernel) (by decide +kernel)
theorem kv_Mo_ofJar : Cond.selects "LastJarsModel" y_Mo_ofJar y_Mo_ofJar ∈ GW := inGW (i := 907) (by decide +kernel) (by decide +kernel)
abbrev c_Mo_ofDecider : ByteArray := prog_14_method_24_code
def y_Mo_ofDecider : MethodName := ⟨"LastJarsModel", "ofDecider", "(II)I"⟩
theorem k_Mo_ofDecider : YI y_Mo_ofDecider c_Mo_ofDecider 3 (some .int) 2 := ⟨inGW (i := 928) (by decide +kernel) (by decide +kernel), ii_Mo, by decide +kernel, by decide +kernel⟩
theorem ki_Mo_ofDecider : Cond.instanceMethod y_Mo_ofDecider ∈ GW := inGW (i := 926) (by decide +kernel) (by decide +kernel)
theorem kv_Mo_ofDecider : Cond.selects "LastJarsModel" y_Mo_ofDecider y_Mo_ofDecider ∈ GW := inGW (i := 927) (by decide +kernel) (by decide +kernel)
abbrev c_Mo_cure : ByteArray := prog_14_method_25_code
def y_Mo_cure : MethodName := ⟨"LastJarsModel", "cure", "(II)I"⟩
theorem k_Mo_cure : YI y_Mo_cure c_Mo_cure 4 (some .int) 2 := ⟨inGW (i := 936) (by decide +kernel) (by decide +kernel), ii_Mo, by decide +kernel, by decide +kernel⟩
theorem ki_Mo_cure : Cond.instanceMethod y_Mo_cure ∈ GW := inGW (i := 934) (by decide +kernel) (by decide +kernel)
theorem kv_Mo_cure : Cond.selects "LastJarsModel" y_Mo_cure y_Mo_cure ∈ GW := inGW (i := 935) (by decide +kernel) (by decide +kernel)
abbrev c_Mo_fetch : ByteArray := prog_14_method_26_code
def y_Mo_fetch : MethodName := ⟨"LastJarsModel", "fetch", "(II)I"⟩
theorem k_Mo_fetch : YI y_Mo_fetch c_Mo_fetch 4 (some .int) 2 := ⟨inGW (i := 940) (by decide +kernel) (by decide +kernel), ii_Mo, by decide +kernel, by decide +kernel⟩
theorem ki_Mo_fetch : Cond.instanceMethod y_Mo_fetch ∈ GW := inGW (i := 938) (by decide +kernel) (by decide +kernel)
theorem kv_Mo_fetch : Cond.selects "LastJarsModel" y_Mo_fetch y_Mo_fetch ∈ GW := inGW (i := 939) (by decide +kernel) (by decide +kernel)
abbrev c_Mo_price : ByteArray := prog_14_method_27_code
def y_Mo_price : MethodName := ⟨"LastJarsModel", "price", "(II)I"⟩
theorem k_Mo_price : YI y_Mo_price c_Mo_price 4 (some .int) 2 := ⟨inGW (i := 944) (by decide +kernel) (by decide +kernel), ii_Mo, by decide +kernel, by decide +kernel⟩
theorem ki_Mo_price : Cond.instanceMethod y_Mo_price ∈ GW := inGW (i := 942) (by decide +kernel) (by decide +kernel)
theorem kv_Mo_price : Cond.selects "LastJarsModel" y_Mo_price y_Mo_price ∈ GW := inGW (i := 943) (by decide +kernel) (by decide +kernel)
abbrev c_Mo_dread : ByteArray := prog_14_method_28_code
def y_Mo_dread : MethodName := ⟨"LastJarsModel", "dread", "(II)I"⟩
theorem k_Mo_dread : YI y_Mo_dread c_Mo_dread 4 (some .int) 2 := ⟨inGW (i := 948) (by decide +kernel) (by decide +kernel), ii_Mo, by decide +kernel, by decide +kernel⟩
theorem ki_Mo_dread : Cond.instanceMethod y_Mo_dread ∈ GW := inGW (i := 946) (by decide +kernel) (by decide +kernel)
theorem kv_Mo_dread : Cond.selects "LastJarsModel" y_Mo_dread y_Mo_dread ∈ GW := inGW (i := 947) (by decide +kernel) (by decide +kernel)
abbrev c_Mo_pay : ByteArray := prog_14_method_29_code
def y_Mo_pay : MethodName := ⟨"LastJarsModel", "pay", "(II)I"⟩
theorem k_Mo_pay : YI y_Mo_pay c_Mo_pay 4 (some .int) 2 := ⟨inGW (i := 952) (by decide +kernel) (by decide +kernel), ii_Mo, by decide +kernel, by decide +kernel⟩
theorem ki_Mo_pay : Cond.instanceMethod y_Mo_pay ∈ GW := inGW (i := 950) (by decide +kernel) (by decide +kernel)
theorem kv_Mo_pay : Cond.selects "LastJarsModel" y_Mo_pay y_Mo_pay ∈ GW := inGW (i := 951) (by decide +kernel) (by decide +kernel)
abbrev c_Mo_mark : ByteArray := prog_14_method_30_code
def y_Mo_mark : MethodName := ⟨"LastJarsModel", "mark", "(II)I"⟩
theorem k_Mo_mark : YI y_Mo_mark c_Mo_mark 3 (some .int) 2 := ⟨inGW (i := 957) (by decide +kernel) (by decide +kernel), ii_Mo, by decide +kernel, by decide +kernel⟩
theorem ki_Mo_mark : Cond.instanceMethod y_Mo_mark ∈ GW := inGW (i := 955) (by decide +kernel) (by decide +kernel)
theorem kv_Mo_mark : Cond.selects "LastJarsModel" y_Mo_mark y_Mo_mark ∈ GW := inGW (i := 956) (by decide +kernel) (by decide +kernel)
abbrev c_Mo_blendOf : ByteArray := prog_14_method_31_code
def y_Mo_blendOf : MethodName := ⟨"LastJarsModel", "blendOf", "(II)I"⟩
theorem k_Mo_blendOf : YI y_Mo_blendOf c_Mo_blendOf 5 (some .int) 2 := ⟨inGW (i := 969) (by decide +kernel) (by decide +kernel), ii_Mo, by decide +kernel, by decide +kernel⟩
theorem ki_Mo_blendOf : Cond.instanceMethod y_Mo_blendOf ∈ GW := inGW (i := 968) (by decide +kernel) (by decide +kernel)
theorem kv_Mo_blendOf : Cond.selects "LastJarsModel" y_Mo_blendOf y_Mo_blendOf ∈ GW := inGW (i := 29) (by decide +kernel) (by decide +kernel)
abbrev c_Mo_blend : ByteArray := prog_14_method_32_code
def y_Mo_blend : MethodName := ⟨"LastJarsModel", "blend", "(II)I"⟩
theorem k_Mo_blend : YI y_Mo_blend c_Mo_blend 3 (some .int) 2 := ⟨inGW (i := 961) (by decide +kernel) (by decide +kernel), ii_Mo, by decide +kernel, by decide +kernel⟩
theorem ki_Mo_blend : Cond.instanceMethod y_Mo_blend ∈ GW := inGW (i := 959) (by decide +kernel) (by decide +kernel)
theorem kv_Mo_blend : Cond.selects "LastJarsModel" y_Mo_blend y_Mo_blend ∈ GW := inGW (i := 960) (by decide +kernel) (by decide +kernel)
abbrev c_Mo_hold : ByteArray := prog_14_method_33_code
def y_Mo_hold : MethodName := ⟨"LastJarsModel", "hold", "(II)I"⟩
theorem k_Mo_hold : YI y_Mo_hold c_Mo_hold 6 (some .int) 2 := ⟨inGW (i := 979) (by decide +kernel) (by decide +kernel), ii_Mo, by decide +kernel, by decide +kernel⟩
theorem ki_Mo_hold : Cond.instanceMethod y_Mo_hold ∈ GW := inGW (i := 977) (by decide +kernel) (by decide +kernel)
theorem kv_Mo_hold : Cond.selects "LastJarsModel" y_Mo_hold y_Mo_hold ∈ GW := inGW (i := 978) (by decide +kernel) (by decide +kernel)
abbrev c_Mo_decides : ByteArray := prog_14_method_34_code
def y_Mo_decides : MethodName := ⟨"LastJarsModel", "decides", "(II)Z"⟩
theorem k_Mo_decides : YI y_Mo_decides c_Mo_decides 3 (some .boolean) 2 := ⟨inGW (i := 995) (by decide +kernel) (by decide +kernel), ii_Mo, by decide +kernel, by decide +kernel⟩
theorem ki_Mo_decides : Cond.instanceMethod y_Mo_decides ∈ GW := inGW (i := 994) (by decide +kernel) (by decide +kernel)
theorem kv_Mo_decides : Cond.selects "LastJarsModel" y_Mo_decides y_Mo_decides ∈ GW := inGW (i := 32) (by decide +kernel) (by decide +kernel)
abbrev c_Mo_canSell : ByteArray := prog_14_method_35_code
def y_Mo_canSell : MethodName := ⟨"LastJarsModel", "canSell", "(II)Z"⟩
theorem k_Mo_canSell : YI y_Mo_canSell c_Mo_canSell 3 (some .boolean) 2 := ⟨inGW (i := 987) (by decide +kernel) (by decide +kernel), ii_Mo, by decide +kernel, by decide +kernel⟩
theorem ki_Mo_canSell : Cond.instanceMethod y_Mo_canSell ∈ GW := inGW (i := 986) (by decide +kernel) (by decide +kernel)
theorem kv_Mo_canSell : Cond.selects "LastJarsModel" y_Mo_canSell y_Mo_canSell ∈ GW := inGW (i := 30) (by decide +kernel) (by decide +kernel)
abbrev c_Mo_sold : ByteArray := prog_14_method_36_code
def y_Mo_sold : MethodName := ⟨"LastJarsModel", "sold", "(II)I"⟩
theorem k_Mo_sold : YI y_Mo_sold c_Mo_sold 3 (some .int) 2 := ⟨inGW (i := 991) (by decide +kernel) (by decide +kernel), ii_Mo, by decide +kernel, by decide +kernel⟩
theorem ki_Mo_sold : Cond.instanceMethod y_Mo_sold ∈ GW := inGW (i := 990) (by decide +kernel) (by decide +kernel)
theorem kv_Mo_sold : Cond.selects "LastJarsModel" y_Mo_sold y_Mo_sold ∈ GW := inGW (i := 31) (by decide +kernel) (by decide +kernel)
abbrev c_Mo_sell : ByteArray := prog_14_method_37_code
def y_Mo_sell : MethodName := ⟨"LastJarsModel", "sell", "(II)I"⟩
theorem k_Mo_sell : YI y_Mo_sell c_Mo_sell 4 (some .int) 2 := ⟨inGW (i := 983) (by decide +kernel) (by decide +kernel), ii_Mo, by decide +kernel, by decide +kernel⟩
theorem ki_Mo_sell : Cond.instanceMethod y_Mo_sell ∈ GW := inGW (i := 981) (by decide +kernel) (by decide +kernel)
theorem kv_Mo_sell : Cond.selects "LastJarsModel" y_Mo_sell y_Mo_sell ∈ GW := inGW (i := 982) (by decide +kernel) (by decide +kernel)
abbrev c_Mo_yearBy : ByteArray := prog_14_method_38_code
def y_Mo_yearBy : MethodName := ⟨"LastJarsModel", "yearBy", "(III)I"⟩
theorem k_Mo_yearBy : YI y_Mo_yearBy c_Mo_yearBy 10 (some .int) 3 := ⟨inGW (i := 1011) (by decide +kernel) (by decide +kernel), ii_Mo, by decide +kernel, by decide +kernel⟩
theorem ki_Mo_yearBy : Cond.instanceMethod y_Mo_yearBy ∈ GW := inGW (i := 1010) (by decide +kernel) (by decide +kernel)
theorem kv_Mo_yearBy : Cond.selects "LastJarsModel" y_Mo_yearBy y_Mo_yearBy ∈ GW := inGW (i := 34) (by decide +kernel) (by decide +kernel)
abbrev c_Mo_arePairs : ByteArray := prog_14_method_39_code
def y_Mo_arePairs : MethodName := ⟨"LastJarsModel", "arePairs", "(II)Z"⟩
theorem k_Mo_arePairs : YI y_Mo_arePairs c_Mo_arePairs 5 (some .boolean) 2 := ⟨inGW (i := 1007) (by decide +kernel) (by decide +kernel), ii_Mo, by decide +kernel, by decide +kernel⟩
theorem ki_Mo_arePairs : Cond.instanceMethod y_Mo_arePairs ∈ GW := inGW (i := 1006) (by decide +kernel) (by decide +kernel)
theorem kv_Mo_arePairs : Cond.selects "LastJarsModel" y_Mo_arePairs y_Mo_arePairs ∈ GW := inGW (i := 33) (by decide +kernel) (by decide +kernel)
abbrev c_Mo_year : ByteArray := prog_14_method_40_code
def y_Mo_year : MethodName := ⟨"LastJarsModel", "year", "(IIIII)I"⟩
theorem k_Mo_year : YI y_Mo_year c_Mo_year 10 (some .int) 5 := ⟨inGW (i := 999) (by decide +kernel) (by decide +kernel), ii_Mo, by decide +kernel, by decide +kernel⟩
theorem ki_Mo_year : Cond.instanceMethod y_Mo_year ∈ GW := inGW (i := 997) (by decide +kernel) (by decide +kernel)
theorem kv_Mo_year : Cond.selects "LastJarsModel" y_Mo_year y_Mo_year ∈ GW := inGW (i := 998) (by decide +kernel) (by decide +kernel)
abbrev c_Mo_leftNow : ByteArray := prog_14_method_41_code
def y_Mo_leftNow : MethodName := ⟨"LastJarsModel", "leftNow", "()I"⟩
theorem k_Mo_leftNow : YI y_Mo_leftNow c_Mo_leftNow 3 (some .int) 0 := ⟨inGW (i := 1019) (by decide +kernel) (by decide +kernel), ii_Mo, by decide +kernel, by decide +kernel⟩
theorem ki_Mo_leftNow : Cond.instanceMethod y_Mo_leftNow ∈ GW := inGW (i := 1018) (by decide +kernel) (by decide +kernel)
theorem kv_Mo_leftNow : Cond.selects "LastJarsModel" y_Mo_leftNow y_Mo_leftNow ∈ GW := inGW (i := 35) (by decide +kernel) (by decide +kernel)
abbrev c_Mo_pricesOf : ByteArray := prog_14_method_42_code
def y_Mo_pricesOf : MethodName := ⟨"LastJarsModel", "pricesOf", "(I)I"⟩
theorem k_Mo_pricesOf : YI y_Mo_pricesOf c_Mo_pricesOf 4 (some .int) 1 := ⟨inGW (i := 1023) (by decide +kernel) (by decide +kernel), ii_Mo, by decide +kernel, by decide +kernel⟩
theorem ki_Mo_pricesOf : Cond.instanceMethod y_Mo_pricesOf ∈ GW := inGW (i := 1022) (by decide +kernel) (by decide +kernel)
theorem kv_Mo_pricesOf : Cond.selects "LastJarsModel" y_Mo_pricesOf y_Mo_pricesOf ∈ GW := inGW (i := 36) (by decide +kernel) (by decide +kernel)
abbrev c_Mo_isRather : ByteArray := prog_14_method_43_code
def y_Mo_isRather : MethodName := ⟨"LastJarsModel", "isRather", "(II)Z"⟩
theorem k_Mo_isRather : YI y_Mo_isRather c_Mo_isRather 4 (some .boolean) 2 := ⟨inGW (i := 1027) (by decide +kernel) (by decide +kernel), ii_Mo, by decide +kernel, by decide +kernel⟩
theorem ki_Mo_isRather : Cond.instanceMethod y_Mo_isRather ∈ GW := inGW (i := 1026) (by decide +kernel) (by decide +kernel)
theorem kv_Mo_isRather : Cond.selects "LastJarsModel" y_Mo_isRather y_Mo_isRather ∈ GW := inGW (i := 37) (by decide +kernel) (by decide +kernel)
abbrev c_Mo_mix : ByteArray := prog_14_method_44_code
def y_Mo_mix : MethodName := ⟨"LastJarsModel", "mix", "(II)I"⟩
theorem k_Mo_mix : YI y_Mo_mix c_Mo_mix 7 (some .int) 2 := ⟨inGW (i := 1015) (by decide +kernel) (by decide +kernel), ii_Mo, by decide +kernel, by decide +kernel⟩
theorem ki_Mo_mix : Cond.instanceMethod y_Mo_mix ∈ GW := inGW (i := 1013) (by decide +kernel) (by decide +kernel)
theorem kv_Mo_mix : Cond.selects "LastJarsModel" y_Mo_mix y_Mo_mix ∈ GW := inGW (i := 1014) (by decide +kernel) (by decide +kernel)
abbrev c_Mo_areLike : ByteArray := prog_14_method_45_code
def y_Mo_areLike : MethodName := ⟨"LastJarsModel", "areLike", "(II)Z"⟩
theorem k_Mo_areLike : YI y_Mo_areLike c_Mo_areLike 5 (some .boolean) 2 := ⟨inGW (i := 1035) (by decide +kernel) (by decide +kernel), ii_Mo, by decide +kernel, by decide +kernel⟩
theorem ki_Mo_areLike : Cond.instanceMethod y_Mo_areLike ∈ GW := inGW (i := 1034) (by decide +kernel) (by decide +kernel)
theorem kv_Mo_areLike : Cond.selects "LastJarsModel" y_Mo_areLike y_Mo_areLike ∈ GW := inGW (i := 38) (by decide +kernel) (by decide +kernel)
abbrev c_Mo_like : ByteArray := prog_14_method_46_code
def y_Mo_like : MethodName := ⟨"LastJarsModel", "like", "(I)I"⟩
theorem k_Mo_like : YI y_Mo_like c_Mo_like 5 (some .int) 1 := ⟨inGW (i := 1031) (by decide +kernel) (by decide +kernel), ii_Mo, by decide +kernel, by decide +kernel⟩
theorem ki_Mo_like : Cond.instanceMethod y_Mo_like ∈ GW := inGW (i := 1029) (by decide +kernel) (by decide +kernel)
theorem kv_Mo_like : Cond.selects "LastJarsModel" y_Mo_like y_Mo_like ∈ GW := inGW (i := 1030) (by decide +kernel) (by decide +kernel)
abbrev c_Mo_isTold : ByteArray := prog_14_method_47_code
def y_Mo_isTold : MethodName := ⟨"LastJarsModel", "isTold", "(III)Z"⟩
theorem k_Mo_isTold : YI y_Mo_isTold c_Mo_isTold 6 (some .boolean) 3 := ⟨inGW (i := 1047) (by decide +kernel) (by decide +kernel), ii_Mo, by decide +kernel, by decide +kernel⟩
theorem ki_Mo_isTold : Cond.instanceMethod y_Mo_isTold ∈ GW := inGW (i := 1046) (by decide +kernel) (by decide +kernel)
theorem kv_Mo_isTold : Cond.selects "LastJarsModel" y_Mo_isTold y_Mo_isTold ∈ GW := inGW (i := 40) (by decide +kernel) (by decide +kernel)
abbrev c_Mo_guessBy : ByteArray := prog_14_method_48_code
def y_Mo_guessBy : MethodName := ⟨"LastJarsModel", "guessBy", "(III)I"⟩
theorem k_Mo_guessBy : YI y_Mo_guessBy c_Mo_guessBy 10 (some .int) 3 := ⟨inGW (i := 1043) (by decide +kernel) (by decide +kernel), ii_Mo, by decide +kernel, by decide +kernel⟩
theorem ki_Mo_guessBy : Cond.instanceMethod y_Mo_guessBy ∈ GW := inGW (i := 1042) (by decide +kernel) (by decide +kernel)
theorem kv_Mo_guessBy : Cond.selects "LastJarsModel" y_Mo_guessBy y_Mo_guessBy ∈ GW := inGW (i := 39) (by decide +kernel) (by decide +kernel)
abbrev c_Mo_guess : ByteArray := prog_14_method_49_code
def y_Mo_guess : MethodName := ⟨"LastJarsModel", "guess", "(IIIII)I"⟩
theorem k_Mo_guess : YI y_Mo_guess c_Mo_guess 7 (some .int) 5 := ⟨inGW (i := 1039) (by decide +kernel) (by decide +kernel), ii_Mo, by decide +kernel, by decide +kernel⟩
theorem ki_Mo_guess : Cond.instanceMethod y_Mo_guess ∈ GW := inGW (i := 1037) (by decide +kernel) (by decide +kernel)
theorem kv_Mo_guess : Cond.selects "LastJarsModel" y_Mo_guess y_Mo_guess ∈ GW := inGW (i := 1038) (by decide +kernel) (by decide +kernel)
abbrev c_Mo_decideBy : ByteArray := prog_14_method_50_code
def y_Mo_decideBy : MethodName := ⟨"LastJarsModel", "decideBy", "(II)I"⟩
theorem k_Mo_decideBy : YI y_Mo_decideBy c_Mo_decideBy 9 (some .int) 2 := ⟨inGW (i := 1060) (by decide +kernel) (by decide +kernel), ii_Mo, by decide +kernel, by decide +kernel⟩
theorem ki_Mo_decideBy : Cond.instanceMethod y_Mo_decideBy ∈ GW := inGW (i := 1059) (by decide +kernel) (by decide +kernel)
theorem kv_Mo_decideBy : Cond.selects "LastJarsModel" y_Mo_decideBy y_Mo_decideBy ∈ GW := inGW (i := 42) (by decide +kernel) (by decide +kernel)
abbrev c_Mo_mostServed : ByteArray := prog_14_method_51_code
def y_Mo_mostServed : MethodName := ⟨"LastJarsModel", "mostServed", "()I"⟩
theorem k_Mo_mostServed : YI y_Mo_mostServed c_Mo_mostServed 6 (some .int) 0 := ⟨inGW (i := 1056) (by decide +kernel) (by decide +kernel), ii_Mo, by decide +kernel, by decide +kernel⟩
theorem ki_Mo_mostServed : Cond.instanceMethod y_Mo_mostServed ∈ GW := inGW (i := 1055) (by decide +kernel) (by decide +kernel)
theorem kv_Mo_mostServed : Cond.selects "LastJarsModel" y_Mo_mostServed y_Mo_mostServed ∈ GW := inGW (i := 41) (by decide +kernel) (by decide +kernel)
abbrev c_Mo_serve : ByteArray := prog_14_method_52_code
def y_Mo_serve : MethodName := ⟨"LastJarsModel", "serve", "(I)I"⟩
theorem k_Mo_serve : YI y_Mo_serve c_Mo_serve 5 (some .int) 1 := ⟨inGW (i := 1051) (by decide +kernel) (by decide +kernel), ii_Mo, by decide +kernel, by decide +kernel⟩
theorem ki_Mo_serve : Cond.instanceMethod y_Mo_serve ∈ GW := inGW (i := 1049) (by decide +kernel) (by decide +kernel)
theorem kv_Mo_serve : Cond.selects "LastJarsModel" y_Mo_serve y_Mo_serve ∈ GW := inGW (i := 1050) (by decide +kernel) (by decide +kernel)
abbrev c_Mo_dear : ByteArray := prog_14_method_53_code
def y_Mo_dear : MethodName := ⟨"LastJarsModel", "dear", "(I)I"⟩
theorem k_Mo_dear : YI y_Mo_dear c_Mo_dear 6 (some .int) 1 := ⟨inGW (i := 1064) (by decide +kernel) (by decide +kernel), ii_Mo, by decide +kernel, by decide +kernel⟩
theorem ki_Mo_dear : Cond.instanceMethod y_Mo_dear ∈ GW := inGW (i := 1062) (by decide +kernel) (by decide +kernel)
theorem kv_Mo_dear : Cond.selects "LastJarsModel" y_Mo_dear y_Mo_dear ∈ GW := inGW (i := 1063) (by decide +kernel) (by decide +kernel)
abbrev c_Mo_reading : ByteArray := prog_14_method_54_code
def y_Mo_reading : MethodName := ⟨"LastJarsModel", "reading", "(III)I"⟩
theorem k_Mo_reading : YI y_Mo_reading c_Mo_reading 4 (some .int) 3 := ⟨inGW (i := 1068) (by decide +kernel) (by decide +kernel), ii_Mo, by decide +kernel, by decide +kernel⟩
theorem ki_Mo_reading : Cond.instanceMethod y_Mo_reading ∈ GW := inGW (i := 1066) (by decide +kernel) (by decide +kernel)
theorem kv_Mo_reading : Cond.selects "LastJarsModel" y_Mo_reading y_Mo_reading ∈ GW := inGW (i := 1067) (by decide +kernel) (by decide +kernel)
abbrev c_Mo_back : ByteArray := prog_14_method_55_code
def y_Mo_back : MethodName := ⟨"LastJarsModel", "back", "(I)I"⟩
theorem k_Mo_back : YI y_Mo_back c_Mo_back 2 (some .int) 1 := ⟨inGW (i := 1072) (by decide +kernel) (by decide +kernel), ii_Mo, by decide +kernel, by decide +kernel⟩
theorem ki_Mo_back : Cond.instanceMethod y_Mo_back ∈ GW := inGW (i := 1070) (by decide +kernel) (by decide +kernel)
theorem kv_Mo_back : Cond.selects "LastJarsModel" y_Mo_back y_Mo_back ∈ GW := inGW (i := 1071) (by decide +kernel) (by decide +kernel)
abbrev c_Mo_areSo : ByteArray := prog_14_method_56_code
def y_Mo_areSo : MethodName := ⟨"LastJarsModel", "areSo", "()Z"⟩
theorem k_Mo_areSo : YI y_Mo_areSo c_Mo_areSo 3 (some .boolean) 0 := ⟨inGW (i := 1080) (by decide +kernel) (by decide +kernel), ii_Mo, by decide +kernel, by decide +kernel⟩
theorem ki_Mo_areSo : Cond.instanceMethod y_Mo_areSo ∈ GW := inGW (i := 1079) (by decide +kernel) (by decide +kernel)
theorem kv_Mo_areSo : Cond.selects "LastJarsModel" y_Mo_areSo y_Mo_areSo ∈ GW := inGW (i := 43) (by decide +kernel) (by decide +kernel)
abbrev c_Mo_sures : ByteArray := prog_14_method_57_code
def y_Mo_sures : MethodName := ⟨"LastJarsModel", "sures", "(I)I"⟩
theorem k_Mo_sures : YI y_Mo_sures c_Mo_sures 5 (some .int) 1 := ⟨inGW (i := 1076) (by decide +kernel) (by decide +kernel), ii_Mo, by decide +kernel, by decide +kernel⟩
theorem ki_Mo_sures : Cond.instanceMethod y_Mo_sures ∈ GW := inGW (i := 1074) (by decide +kernel) (by decide +kernel)
theorem kv_Mo_sures : Cond.selects "LastJarsModel" y_Mo_sures y_Mo_sures ∈ GW := inGW (i := 1075) (by decide +kernel) (by decide +kernel)
abbrev c_Mo_fades : ByteArray := prog_14_method_58_code
def y_Mo_fades : MethodName := ⟨"LastJarsModel", "fades", "(I)I"⟩
theorem k_Mo_fades : YI y_Mo_fades c_Mo_fades 5 (some .int) 1 := ⟨inGW (i := 1084) (by decide +kernel) (by decide +kernel), ii_Mo, by decide +kernel, by decide +kernel⟩
theorem ki_Mo_fades : Cond.instanceMethod y_Mo_fades ∈ GW := inGW (i := 1082) (by decide +kernel) (by decide +kernel)
theorem kv_Mo_fades : Cond.selects "LastJarsModel" y_Mo_fades y_Mo_fades ∈ GW := inGW (i := 1083) (by decide +kernel) (by decide +kernel)
abbrev c_Mo_kinds : ByteArray := prog_14_method_59_code
def y_Mo_kinds : MethodName := ⟨"LastJarsModel", "kinds", "(I)I"⟩
theorem k_Mo_kinds : YI y_Mo_kinds c_Mo_kinds 5 (some .int) 1 := ⟨inGW (i := 1088) (by decide +kernel) (by decide +kernel), ii_Mo, by decide +kernel, by decide +kernel⟩
theorem ki_Mo_kinds : Cond.instanceMethod y_Mo_kinds ∈ GW := inGW (i := 1086) (by decide +kernel) (by decide +kernel)
theorem kv_Mo_kinds : Cond.selects "LastJarsModel" y_Mo_kinds y_Mo_kinds ∈ GW := inGW (i := 1087) (by decide +kernel) (by decide +kernel)
abbrev c_Mo_odds : ByteArray := prog_14_method_60_code
def y_Mo_odds : MethodName := ⟨"LastJarsModel", "odds", "(II)J"⟩
theorem k_Mo_odds : YI y_Mo_odds c_Mo_odds 9 (some .long) 2 := ⟨inGW (i := 1092) (by decide +kernel) (by decide +kernel), ii_Mo, by decide +kernel, by decide +kernel⟩
theorem ki_Mo_odds : Cond.instanceMethod y_Mo_odds ∈ GW := inGW (i := 1090) (by decide +kernel) (by decide +kernel)
theorem kv_Mo_odds : Cond.selects "LastJarsModel" y_Mo_odds y_Mo_odds ∈ GW := inGW (i := 1091) (by decide +kernel) (by decide +kernel)
abbrev c_Mo_noSheet : ByteArray := prog_14_method_61_code
def y_Mo_noSheet : MethodName := ⟨"LastJarsModel", "noSheet", "(I)Z"⟩
theorem k_Mo_noSheet : YI y_Mo_noSheet c_Mo_noSheet 1 (some .boolean) 1 := ⟨inGW (i := 863) (by decide +kernel) (by decide +kernel), ii_Mo, by decide +kernel, by decide +kernel⟩
theorem ks_Mo_noSheet : Cond.static y_Mo_noSheet ∈ GW := inGW (i := 862) (by decide +kernel) (by decide +kernel)
abbrev c_Mo_sheet : ByteArray := prog_14_method_62_code
def y_Mo_sheet : MethodName := ⟨"LastJarsModel", "sheet", "(III)I"⟩
theorem k_Mo_sheet : YI y_Mo_sheet c_Mo_sheet 5 (some .int) 3 := ⟨inGW (i := 1103) (by decide +kernel) (by decide +kernel), ii_Mo, by decide +kernel, by decide +kernel⟩
theorem ki_Mo_sheet : Cond.instanceMethod y_Mo_sheet ∈ GW := inGW (i := 1101) (by decide +kernel) (by decide +kernel)
theorem kv_Mo_sheet : Cond.selects "LastJarsModel" y_Mo_sheet y_Mo_sheet ∈ GW := inGW (i := 1102) (by decide +kernel) (by decide +kernel)
abbrev c_Mo_lose : ByteArray := prog_14_method_63_code
def y_Mo_lose : MethodName := ⟨"LastJarsModel", "lose", "(I)I"⟩
theorem k_Mo_lose : YI y_Mo_lose c_Mo_lose 3 (some .int) 1 := ⟨inGW (i := 1107) (by decide +kernel) (by decide +kernel), ii_Mo, by decide +kernel, by decide +kernel⟩
theorem ki_Mo_lose : Cond.instanceMethod y_Mo_lose ∈ GW := inGW (i := 1105) (by decide +kernel) (by decide +kernel)
theorem kv_Mo_lose : Cond.selects "LastJarsModel" y_Mo_lose y_Mo_lose ∈ GW := inGW (i := 1106) (by decide +kernel) (by decide +kernel)
abbrev c_Mo_noCell : ByteArray := prog_14_method_64_code
def y_Mo_noCell : MethodName := ⟨"LastJarsModel", "noCell", "(II)I"⟩
theorem k_Mo_noCell : YI y_Mo_noCell c_Mo_noCell 3 (some .int) 2 := ⟨inGW (i := 1115) (by decide +kernel) (by decide +kernel), ii_Mo, by decide +kernel, by decide +kernel⟩
theorem ki_Mo_noCell : Cond.instanceMethod y_Mo_noCell ∈ GW := inGW (i := 1114) (by decide +kernel) (by decide +kernel)
theorem kv_Mo_noCell : Cond.selects "LastJarsModel" y_Mo_noCell y_Mo_noCell ∈ GW := inGW (i := 44) (by decide +kernel) (by decide +kernel)
abbrev c_Mo_put : ByteArray := prog_14_method_65_code
def y_Mo_put : MethodName := ⟨"LastJarsModel", "put", "(III)I"⟩
theorem k_Mo_put : YI y_Mo_put c_Mo_put 4 (some .int) 3 := ⟨inGW (i := 1111) (by decide +kernel) (by decide +kernel), ii_Mo, by decide +kernel, by decide +kernel⟩
theorem ki_Mo_put : Cond.instanceMethod y_Mo_put ∈ GW := inGW (i := 1109) (by decide +kernel) (by decide +kernel)
theorem kv_Mo_put : Cond.selects "LastJarsModel" y_Mo_put y_Mo_put ∈ GW := inGW (i := 1110) (by decide +kernel) (by decide +kernel)
abbrev c_Mo_cell : ByteArray := prog_14_method_66_code
def y_Mo_cell : MethodName := ⟨"LastJarsModel", "cell", "(III)J"⟩
theorem k_Mo_cell : YI y_Mo_cell c_Mo_cell 4 (some .long) 3 := ⟨inGW (i := 1119) (by decide +kernel) (by decide +kernel), ii_Mo, by decide +kernel, by decide +kernel⟩
theorem ki_Mo_cell : Cond.instanceMethod y_Mo_cell ∈ GW := inGW (i := 1117) (by decide +kernel) (by decide +kernel)
theorem kv_Mo_cell : Cond.selects "LastJarsModel" y_Mo_cell y_Mo_cell ∈ GW := inGW (i := 1118) (by decide +kernel) (by decide +kernel)
abbrev c_Mo_isBeyond : ByteArray := prog_14_method_67_code
def y_Mo_isBeyond : MethodName := ⟨"LastJarsModel", "isBeyond", "(IJI)Z"⟩
theorem k_Mo_isBeyond : YI y_Mo_isBeyond c_Mo_isBeyond 4 (some .boolean) 3 := ⟨inGW (i := 883) (by decide +kernel) (by decide +kernel), ii_Mo, by decide +kernel, by decide +kernel⟩
theorem ks_Mo_isBeyond : Cond.static y_Mo_isBeyond ∈ GW := inGW (i := 882) (by decide +kernel) (by decide +kernel)
abbrev c_Mo_copy : ByteArray := prog_14_method_68_code
def y_Mo_copy : MethodName := ⟨"LastJarsModel", "copy", "(IIIII)I"⟩
theorem k_Mo_copy : YI y_Mo_copy c_Mo_copy 7 (some .int) 5 := ⟨inGW (i := 1127) (by decide +kernel) (by decide +kernel), ii_Mo, by decide +kernel, by decide +kernel⟩
theorem ki_Mo_copy : Cond.instanceMethod y_Mo_copy ∈ GW := inGW (i := 1125) (by decide +kernel) (by decide +kernel)
theorem kv_Mo_copy : Cond.selects "LastJarsModel" y_Mo_copy y_Mo_copy ∈ GW := inGW (i := 1126) (by decide +kernel) (by decide +kernel)
abbrev c_Mo_traced : ByteArray := prog_14_method_69_code
def y_Mo_traced : MethodName := ⟨"LastJarsModel", "traced", "(I)V"⟩
theorem k_Mo_traced : YI y_Mo_traced c_Mo_traced 2 none 1 := ⟨inGW (i := 1135) (by decide +kernel) (by decide +kernel), ii_Mo, by decide +kernel, by decide +kernel⟩
theorem ki_Mo_traced : Cond.instanceMethod y_Mo_traced ∈ GW := inGW (i := 1134) (by decide +kernel) (by decide +kernel)
theorem kv_Mo_traced : Cond.selects "LastJarsModel" y_Mo_traced y_Mo_traced ∈ GW := inGW (i := 46) (by decide +kernel) (by decide +kernel)
abbrev c_Mo_tell : ByteArray := prog_14_method_70_code
def y_Mo_tell : MethodName := ⟨"LastJarsModel", "tell", "(I)I"⟩
theorem k_Mo_tell : YI y_Mo_tell c_Mo_tell 4 (some .int) 1 := ⟨inGW (i := 1131) (by decide +kernel) (by decide +kernel), ii_Mo, by decide +kernel, by decide +kernel⟩
theorem ki_Mo_tell : Cond.instanceMethod y_Mo_tell ∈ GW := inGW (i := 1129) (by decide +kernel) (by decide +kernel)
theorem kv_Mo_tell : Cond.selects "LastJarsModel" y_Mo_tell y_Mo_tell ∈ GW := inGW (i := 1130) (by decide +kernel) (by decide +kernel)
abbrev c_Mo_sniff : ByteArray := prog_14_method_71_code
def y_Mo_sniff : MethodName := ⟨"LastJarsModel", "sniff", "(I)I"⟩
theorem k_Mo_sniff : YI y_Mo_sniff c_Mo_sniff 2 (some .int) 1 := ⟨inGW (i := 1139) (by decide +kernel) (by decide +kernel), ii_Mo, by decide +kernel, by decide +kernel⟩
theorem ki_Mo_sniff : Cond.instanceMethod y_Mo_sniff ∈ GW := inGW (i := 1137) (by decide +kernel) (by decide +kernel)
theorem kv_Mo_sniff : Cond.selects "LastJarsModel" y_Mo_sniff y_Mo_sniff ∈ GW := inGW (i := 1138) (by decide +kernel) (by decide +kernel)
abbrev c_Mo_as : ByteArray := prog_14_method_72_code
def y_Mo_as : MethodName := ⟨"LastJarsModel", "as", "(II)I"⟩
theorem k_Mo_as : YI y_Mo_as c_Mo_as 3 (some .int) 2 := ⟨inGW (i := 1143) (by decide +kernel) (by decide +kernel), ii_Mo, by decide +kernel, by decide +kernel⟩
theorem ki_Mo_as : Cond.instanceMethod y_Mo_as ∈ GW := inGW (i := 1141) (by decide +kernel) (by decide +kernel)
theorem kv_Mo_as : Cond.selects "LastJarsModel" y_Mo_as y_Mo_as ∈ GW := inGW (i := 1142) (by decide +kernel) (by decide +kernel)
abbrev c_Mo_trace : ByteArray := prog_14_method_73_code
def y_Mo_trace : MethodName := ⟨"LastJarsModel", "trace", "()I"⟩
theorem k_Mo_trace : YI y_Mo_trace c_Mo_trace 1 (some .int) 0 := ⟨inGW (i := 1147) (by decide +kernel) (by decide +kernel), ii_Mo, by decide +kernel, by decide +kernel⟩
theorem ki_Mo_trace : Cond.instanceMethod y_Mo_trace ∈ GW := inGW (i := 1145) (by decide +kernel) (by decide +kernel)
theorem kv_Mo_trace : Cond.selects "LastJarsModel" y_Mo_trace y_Mo_trace ∈ GW := inGW (i := 1146) (by decide +kernel) (by decide +kernel)
abbrev c_Mo_fault : ByteArray := prog_14_method_74_code
def y_Mo_fault : MethodName := ⟨"LastJarsModel", "fault", "()I"⟩
theorem k_Mo_fault : YI y_Mo_fault c_Mo_fault 1 (some .int) 0 := ⟨inGW (i := 1151) (by decide +kernel) (by decide +kernel), ii_Mo, by decide +kernel, by decide +kernel⟩
theorem ki_Mo_fault : Cond.instanceMethod y_Mo_fault ∈ GW := inGW (i := 1149) (by decide +kernel) (by decide +kernel)
theorem kv_Mo_fault : Cond.selects "LastJarsModel" y_Mo_fault y_Mo_fault ∈ GW := inGW (i := 1150) (by decide +kernel) (by decide +kernel)
abbrev c_Mo_allHalves : ByteArray := prog_14_method_75_code
def y_Mo_allHalves : MethodName := ⟨"LastJarsModel", "allHalves", "()I"⟩
theorem k_Mo_allHalves : YI y_Mo_allHalves c_Mo_allHalves 3 (some .int) 0 := ⟨inGW (i := 1159) (by decide +kernel) (by decide +kernel), ii_Mo, by decide +kernel, by decide +kernel⟩
theorem ki_Mo_allHalves : Cond.instanceMethod y_Mo_allHalves ∈ GW := inGW (i := 1158) (by decide +kernel) (by decide +kernel)
theorem kv_Mo_allHalves : Cond.selects "LastJarsModel" y_Mo_allHalves y_Mo_allHalves ∈ GW := inGW (i := 47) (by decide +kernel) (by decide +kernel)
abbrev c_Mo_many : ByteArray := prog_14_method_76_code
def y_Mo_many : MethodName := ⟨"LastJarsModel", "many", "(I)I"⟩
theorem k_Mo_many : YI y_Mo_many c_Mo_many 2 (some .int) 1 := ⟨inGW (i := 1155) (by decide +kernel) (by decide +kernel), ii_Mo, by decide +kernel, by decide +kernel⟩
theorem ki_Mo_many : Cond.instanceMethod y_Mo_many ∈ GW := inGW (i := 1153) (by decide +kernel) (by decide +kernel)
theorem kv_Mo_many : Cond.selects "LastJarsModel" y_Mo_many y_Mo_many ∈ GW := inGW (i := 1154) (by decide +kernel) (by decide +kernel)
abbrev c_jI_bitCount : ByteArray := prog_15_method_49_code
def y_jI_bitCount : MethodName := ⟨"java/lang/Integer", "bitCount", "(I)I"⟩
theorem k_jI_bitCount : YI y_jI_bitCount c_jI_bitCount 1 (some .int) 1 := ⟨inGW (i := 525) (by decide +kernel) (by decide +kernel), ii_jI, by decide +kernel, by decide +kernel⟩
theorem ks_jI_bitCount : Cond.static y_jI_bitCount ∈ GW := inGW (i := 524) (by decide +kernel) (by decide +kernel)
abbrev c_jA_fill : ByteArray := prog_18_method_103_code
def y_jA_fill : MethodName := ⟨"java/util/Arrays", "fill", "([II)V"⟩
theorem k_jA_fill : YI y_jA_fill c_jA_fill 4 none 2 := ⟨inGW (i := 658) (by decide +kernel) (by decide +kernel), ii_jA, by decide +kernel, by decide +kernel⟩
theorem ks_jA_fill : Cond.static y_jA_fill ∈ GW := inGW (i := 657) (by decide +kernel) (by decide +kernel)
theorem ml_La_9 : Cond.methodLink "LastJarsLaw" 9 y_LJ_init ∈ GW := inGW (i := 68) (by decide +kernel) (by decide +kernel)
theorem ml_LJ_3 : Cond.methodLink "LastJars" 3 objectInit ∈ GW := inGW (i := 71) (by decide +kernel) (by decide +kernel)
theorem ml_LJ_11 : Cond.methodLink "LastJars" 11 y_Sp_init ∈ GW := inGW (i := 76) (by decide +kernel) (by decide +kernel)
theorem ml_Sp_3 : Cond.methodLink "LastJars$Shop" 3 objectInit ∈ GW := inGW (i := 79) (by decide +kernel) (by decide +kernel)
theorem ml_Sp_23 : Cond.methodLink "LastJars$Shop" 23 y_Ja_init ∈ GW := inGW (i := 85) (by decide +kernel) (by decide +kernel)
theorem ml_Ja_3 : Cond.methodLink "LastJars$Jar" 3 objectInit ∈ GW := inGW (i := 88) (by decide +kernel) (by decide +kernel)
theorem ml_Sp_24 : Cond.methodLink "LastJars$Shop" 24 y_De_init ∈ GW := inGW (i := 121) (by decide +kernel) (by decide +kernel)
theorem ml_De_3 : Cond.methodLink "LastJars$Decider" 3 objectInit ∈ GW := inGW (i := 124) (by decide +kernel) (by decide +kernel)
theorem ml_LJ_20 : Cond.methodLink "LastJars" 20 y_Sa_init ∈ GW := inGW (i := 179) (by decide +kernel) (by decide +kernel)
theorem ml_Sa_3 : Cond.methodLink "LastJars$Sales" 3 objectInit ∈ GW := inGW (i := 182) (by decide +kernel) (by decide +kernel)
theorem ml_LJ_27 : Cond.methodLink "LastJars" 27 y_Se_init ∈ GW := inGW (i := 202) (by decide +kernel) (by decide +kernel)
theorem ml_Se_3 : Cond.methodLink "LastJars$Service" 3 objectInit ∈ GW := inGW (i := 205) (by decide +kernel) (by decide +kernel)
theorem ml_LJ_34 : Cond.methodLink "LastJars" 34 y_Re_init ∈ GW := inGW (i := 215) (by decide +kernel) (by decide +kernel)
theorem ml_Re_3 : Cond.methodLink "LastJars$Readings" 3 objectInit ∈ GW := inGW (i := 218) (by decide +kernel) (by decide +kernel)
theorem ml_LJ_41 : Cond.methodLink "LastJars" 41 y_Te_init ∈ GW := inGW (i := 235) (by decide +kernel) (by decide +kernel)
theorem ml_Te_1 : Cond.methodLink "LastJars$Teller" 1 objectInit ∈ GW := inGW (i := 238) (by decide +kernel) (by decide +kernel)
theorem ml_LJ_56 : Cond.methodLink "LastJars" 56 y_Sh_init ∈ GW := inGW (i := 247) (by decide +kernel) (by decide +kernel)
theorem ml_Sh_3 : Cond.methodLink "LastJars$Sheet" 3 objectInit ∈ GW := inGW (i := 250) (by decide +kernel) (by decide +kernel)
theorem ml_La_13 : Cond.methodLink "LastJarsLaw" 13 y_LJ_store ∈ GW := inGW (i := 289) (by decide +kernel) (by decide +kernel)
theorem ml_LJ_57 : Cond.methodLink "LastJars" 57 y_LJ_sheetAt ∈ GW := inGW (i := 293) (by decide +kernel) (by decide +kernel)
theorem ml_LJ_65 : Cond.methodLink "LastJars" 65 y_LJ_isBelow ∈ GW := inGW (i := 297) (by decide +kernel) (by decide +kernel)
theorem ml_LJ_61 : Cond.methodLink "LastJars" 61 y_LJ_refused ∈ GW := inGW (i := 300) (by decide +kernel) (by decide +kernel)
theorem ml_LJ_69 : Cond.methodLink "LastJars" 69 y_Sh_faultOf ∈ GW := inGW (i := 304) (by decide +kernel) (by decide +kernel)
theorem ml_Sh_32 : Cond.methodLink "LastJars$Sheet" 32 y_Sh_hasCells ∈ GW := inGW (i := 308) (by decide +kernel) (by decide +kernel)
theorem ml_LJ_73 : Cond.methodLink "LastJars" 73 y_LJ_failed ∈ GW := inGW (i := 312) (by decide +kernel) (by decide +kernel)
theorem ml_LJ_76 : Cond.methodLink "LastJars" 76 y_Tx_firstFault ∈ GW := inGW (i := 316) (by decide +kernel) (by decide +kernel)
theorem ml_Tx_9 : Cond.methodLink "LastJars$Text" 9 y_Sh_at ∈ GW := inGW (i := 319) (by decide +kernel) (by decide +kernel)
theorem mn_Sh_36 : Cond.methodLinkNest "LastJars$Sheet" 36 y_LJ_isBelow "LastJars" ∈ lw_tbl := List.mem_of_getElem? (i := 323) (by decide +kernel)
theorem ml_Tx_15 : Cond.methodLink "LastJars$Text" 15 y_Tx_startsWith ∈ GW := inGW (i := 324) (by decide +kernel) (by decide +kernel)
theorem ml_Tx_21 : Cond.methodLink "LastJars$Text" 21 y_Tx_fitting ∈ GW := inGW (i := 327) (by decide +kernel) (by decide +kernel)
theorem ml_Tx_25 : Cond.methodLink "LastJars$Text" 25 y_Tx_kindOf ∈ GW := inGW (i := 330) (by decide +kernel) (by decide +kernel)
theorem mn_Tx_28 : Cond.methodLinkNest "LastJars$Text" 28 y_LJ_isBelow "LastJars" ∈ lw_tbl := List.mem_of_getElem? (i := 333) (by decide +kernel)
theorem ml_LJ_82 : Cond.methodLink "LastJars" 82 y_Tx_fill ∈ GW := inGW (i := 334) (by decide +kernel) (by decide +kernel)
theorem ml_Tx_45 : Cond.methodLink "LastJars$Text" 45 y_Tx_fillJar ∈ GW := inGW (i := 337) (by decide +kernel) (by decide +kernel)
theorem ml_Tx_53 : Cond.methodLink "LastJars$Text" 53 y_Tx_fillDecider ∈ GW := inGW (i := 340) (by decide +kernel) (by decide +kernel)
theorem ml_La_18 : Cond.methodLink "LastJarsLaw" 18 y_LJ_ofJar ∈ GW := inGW (i := 343) (by decide +kernel) (by decide +kernel)
theorem ml_LJ_92 : Cond.methodLink "LastJars" 92 y_Sp_jarAt ∈ GW := inGW (i := 347) (by decide +kernel) (by decide +kernel)
theorem mn_Sp_29 : Cond.methodLinkNest "LastJars$Shop" 29 y_LJ_isBelow "LastJars" ∈ lw_tbl := List.mem_of_getElem? (i := 351) (by decide +kernel)
theorem ml_LJ_96 : Cond.methodLink "LastJars" 96 y_Ja_part ∈ GW := inGW (i := 352) (by decide +kernel) (by decide +kernel)
theorem ml_Ja_27 : Cond.methodLink "LastJars$Jar" 27 y_Ja_greatest ∈ GW := inGW (i := 356) (by decide +kernel) (by decide +kernel)
theorem ml_Ja_37 : Cond.methodLink "LastJars$Jar" 37 y_Ja_markIn ∈ GW := inGW (i := 360) (by decide +kernel) (by decide +kernel)
theorem ml_Ja_31 : Cond.methodLink "LastJars$Jar" 31 Lib.Math.max.name ∈ GW := inGW (i := 364) (by decide +kernel) (by decide +kernel)
theorem ml_La_23 : Cond.methodLink "LastJarsLaw" 23 y_LJ_ofDecider ∈ GW := inGW (i := 367) (by decide +kernel) (by decide +kernel)
theorem ml_LJ_101 : Cond.methodLink "LastJars" 101 y_Sp_deciderAt ∈ GW := inGW (i := 371) (by decide +kernel) (by decide +kernel)
theorem ml_LJ_105 : Cond.methodLink "LastJars" 105 y_De_part ∈ GW := inGW (i := 375) (by decide +kernel) (by decide +kernel)
theorem ml_La_27 : Cond.methodLink "LastJarsLaw" 27 y_LJ_cure ∈ GW := inGW (i := 379) (by decide +kernel) (by decide +kernel)
theorem ml_LJ_108 : Cond.methodLink "LastJars" 108 y_LJ_changeJar ∈ GW := inGW (i := 383) (by decide +kernel) (by decide +kernel)
theorem ml_LJ_280 : Cond.methodLink "LastJars" 280 y_Ja_become ∈ GW := inGW (i := 387) (by decide +kernel) (by decide +kernel)
theorem ml_La_31 : Cond.methodLink "LastJarsLaw" 31 y_LJ_fetch ∈ GW := inGW (i := 391) (by decide +kernel) (by decide +kernel)
theorem ml_La_35 : Cond.methodLink "LastJarsLaw" 35 y_LJ_price ∈ GW := inGW (i := 395) (by decide +kernel) (by decide +kernel)
theorem ml_La_39 : Cond.methodLink "LastJarsLaw" 39 y_LJ_dread ∈ GW := inGW (i := 399) (by decide +kernel) (by decide +kernel)
theorem ml_LJ_111 : Cond.methodLink "LastJars" 111 y_LJ_changeDecider ∈ GW := inGW (i := 403) (by decide +kernel) (by decide +kernel)
theorem ml_LJ_283 : Cond.methodLink "LastJars" 283 y_De_become ∈ GW := inGW (i := 407) (by decide +kernel) (by decide +kernel)
theorem ml_La_43 : Cond.methodLink "LastJarsLaw" 43 y_LJ_pay ∈ GW := inGW (i := 411) (by decide +kernel) (by decide +kernel)
theorem ml_La_47 : Cond.methodLink "LastJarsLaw" 47 y_LJ_mark ∈ GW := inGW (i := 415) (by decide +kernel) (by decide +kernel)
theorem ml_LJ_115 : Cond.methodLink "LastJars" 115 y_Ja_markIn ∈ GW := inGW (i := 419) (by decide +kernel) (by decide +kernel)
theorem ml_La_51 : Cond.methodLink "LastJarsLaw" 51 y_LJ_blend ∈ GW := inGW (i := 420) (by decide +kernel) (by decide +kernel)
theorem ml_LJ_118 : Cond.methodLink "LastJars" 118 y_Sp_isMissing ∈ GW := inGW (i := 424) (by decide +kernel) (by decide +kernel)
theorem ml_LJ_122 : Cond.methodLink "LastJars" 122 y_Sp_isBlend ∈ GW := inGW (i := 428) (by decide +kernel) (by decide +kernel)
theorem ml_Sp_36 : Cond.methodLink "LastJars$Shop" 36 y_Sp_setsEnd ∈ GW := inGW (i := 432) (by decide +kernel) (by decide +kernel)
theorem ml_LJ_126 : Cond.methodLink "LastJars" 126 y_Sp_markOf ∈ GW := inGW (i := 436) (by decide +kernel) (by decide +kernel)
theorem ml_Sp_40 : Cond.methodLink "LastJars$Shop" 40 y_Ja_markIn ∈ GW := inGW (i := 440) (by decide +kernel) (by decide +kernel)
theorem ml_La_55 : Cond.methodLink "LastJarsLaw" 55 y_LJ_hold ∈ GW := inGW (i := 441) (by decide +kernel) (by decide +kernel)
theorem ml_LJ_130 : Cond.methodLink "LastJars" 130 y_Bl_longest ∈ GW := inGW (i := 445) (by decide +kernel) (by decide +kernel)
theorem ml_Bl_9 : Cond.methodLink "LastJars$Blends" 9 y_Sp_markOf ∈ GW := inGW (i := 448) (by decide +kernel) (by decide +kernel)
theorem ml_Bl_15 : Cond.methodLink "LastJars$Blends" 15 Lib.Math.max.name ∈ GW := inGW (i := 449) (by decide +kernel) (by decide +kernel)
theorem ml_La_59 : Cond.methodLink "LastJarsLaw" 59 y_LJ_sell ∈ GW := inGW (i := 450) (by decide +kernel) (by decide +kernel)
theorem ml_LJ_145 : Cond.methodLink "LastJars" 145 y_De_decidesBy ∈ GW := inGW (i := 454) (by decide +kernel) (by decide +kernel)
theorem ml_De_24 : Cond.methodLink "LastJars$Decider" 24 y_Ja_markIn ∈ GW := inGW (i := 458) (by decide +kernel) (by decide +kernel)
theorem ml_La_63 : Cond.methodLink "LastJarsLaw" 63 y_LJ_year ∈ GW := inGW (i := 459) (by decide +kernel) (by decide +kernel)
theorem ml_LJ_152 : Cond.methodLink "LastJars" 152 y_Sa_isTold ∈ GW := inGW (i := 463) (by decide +kernel) (by decide +kernel)
theorem mn_Sa_18 : Cond.methodLinkNest "LastJars$Sales" 18 y_LJ_isBelow "LastJars" ∈ lw_tbl := List.mem_of_getElem? (i := 466) (by decide +kernel)
theorem ml_LJ_155 : Cond.methodLink "LastJars" 155 y_Sa_areAllThere ∈ GW := inGW (i := 467) (by decide +kernel) (by decide +kernel)
theorem ml_Sa_22 : Cond.methodLink "LastJars$Sales" 22 y_Sa_buyerOf ∈ GW := inGW (i := 470) (by decide +kernel) (by decide +kernel)
theorem ml_Sa_30 : Cond.methodLink "LastJars$Sales" 30 y_Sh_at ∈ GW := inGW (i := 473) (by decide +kernel) (by decide +kernel)
theorem ml_Sa_36 : Cond.methodLink "LastJars$Sales" 36 y_Sp_deciderAt ∈ GW := inGW (i := 474) (by decide +kernel) (by decide +kernel)
theorem ml_Sa_26 : Cond.methodLink "LastJars$Sales" 26 y_Sa_jarOf ∈ GW := inGW (i := 475) (by decide +kernel) (by decide +kernel)
theorem ml_Sa_42 : Cond.methodLink "LastJars$Sales" 42 y_Sp_jarAt ∈ GW := inGW (i := 478) (by decide +kernel) (by decide +kernel)
theorem ml_LJ_159 : Cond.methodLink "LastJars" 159 y_Sa_goThrough ∈ GW := inGW (i := 479) (by decide +kernel) (by decide +kernel)
theorem ml_Sa_46 : Cond.methodLink "LastJars$Sales" 46 y_Sa_begin ∈ GW := inGW (i := 483) (by decide +kernel) (by decide +kernel)
theorem ml_Sa_65 : Cond.methodLink "LastJars$Sales" 65 y_De_decidesBy ∈ GW := inGW (i := 487) (by decide +kernel) (by decide +kernel)
theorem ml_LJ_163 : Cond.methodLink "LastJars" 163 y_Sa_answer ∈ GW := inGW (i := 488) (by decide +kernel) (by decide +kernel)
theorem ml_Sa_84 : Cond.methodLink "LastJars$Sales" 84 y_Sa_emptied ∈ GW := inGW (i := 492) (by decide +kernel) (by decide +kernel)
theorem ml_Sa_88 : Cond.methodLink "LastJars$Sales" 88 y_Sa_halvesThen ∈ GW := inGW (i := 496) (by decide +kernel) (by decide +kernel)
theorem ml_Sa_92 : Cond.methodLink "LastJars$Sales" 92 y_Sa_purseThen ∈ GW := inGW (i := 500) (by decide +kernel) (by decide +kernel)
theorem ml_La_68 : Cond.methodLink "LastJarsLaw" 68 y_LJ_mix ∈ GW := inGW (i := 504) (by decide +kernel) (by decide +kernel)
theorem ml_LJ_167 : Cond.methodLink "LastJars" 167 y_Bl_cheapest ∈ GW := inGW (i := 508) (by decide +kernel) (by decide +kernel)
theorem ml_Bl_20 : Cond.methodLink "LastJars$Blends" 20 y_Sp_stocked ∈ GW := inGW (i := 511) (by decide +kernel) (by decide +kernel)
theorem ml_Bl_24 : Cond.methodLink "LastJars$Blends" 24 y_Sp_setsEnd ∈ GW := inGW (i := 515) (by decide +kernel) (by decide +kernel)
theorem ml_Bl_27 : Cond.methodLink "LastJars$Blends" 27 y_Sp_penceOf ∈ GW := inGW (i := 516) (by decide +kernel) (by decide +kernel)
theorem ml_Bl_37 : Cond.methodLink "LastJars$Blends" 37 y_Bl_decides ∈ GW := inGW (i := 520) (by decide +kernel) (by decide +kernel)
theorem ml_Bl_43 : Cond.methodLink "LastJars$Blends" 43 y_jI_bitCount ∈ GW := inGW (i := 523) (by decide +kernel) (by decide +kernel)
theorem ml_LJ_171 : Cond.methodLink "LastJars" 171 y_Sp_penceOf ∈ GW := inGW (i := 529) (by decide +kernel) (by decide +kernel)
theorem ml_La_72 : Cond.methodLink "LastJarsLaw" 72 y_LJ_like ∈ GW := inGW (i := 530) (by decide +kernel) (by decide +kernel)
theorem ml_LJ_174 : Cond.methodLink "LastJars" 174 y_Bl_alike ∈ GW := inGW (i := 534) (by decide +kernel) (by decide +kernel)
theorem ml_Bl_54 : Cond.methodLink "LastJars$Blends" 54 y_Bl_isSameMarked ∈ GW := inGW (i := 537) (by decide +kernel) (by decide +kernel)
theorem ml_La_77 : Cond.methodLink "LastJarsLaw" 77 y_LJ_guess ∈ GW := inGW (i := 540) (by decide +kernel) (by decide +kernel)
theorem ml_LJ_177 : Cond.methodLink "LastJars" 177 y_Gu_jars ∈ GW := inGW (i := 544) (by decide +kernel) (by decide +kernel)
theorem ml_Gu_15 : Cond.methodLink "LastJars$Guess" 15 y_Gu_hasMarks ∈ GW := inGW (i := 547) (by decide +kernel) (by decide +kernel)
theorem ml_Gu_31 : Cond.methodLink "LastJars$Guess" 31 y_Sp_markOf ∈ GW := inGW (i := 550) (by decide +kernel) (by decide +kernel)
theorem ml_Gu_35 : Cond.methodLink "LastJars$Guess" 35 y_Sh_at ∈ GW := inGW (i := 551) (by decide +kernel) (by decide +kernel)
theorem ml_LJ_183 : Cond.methodLink "LastJars" 183 y_Gu_howManyPairs ∈ GW := inGW (i := 552) (by decide +kernel) (by decide +kernel)
theorem ml_Gu_21 : Cond.methodLink "LastJars$Guess" 21 y_Sp_setsEnd ∈ GW := inGW (i := 555) (by decide +kernel) (by decide +kernel)
theorem ml_Gu_25 : Cond.methodLink "LastJars$Guess" 25 y_jI_bitCount ∈ GW := inGW (i := 556) (by decide +kernel) (by decide +kernel)
theorem ml_LJ_186 : Cond.methodLink "LastJars" 186 y_Gu_leastPair ∈ GW := inGW (i := 557) (by decide +kernel) (by decide +kernel)
theorem ml_La_81 : Cond.methodLink "LastJarsLaw" 81 y_LJ_serve ∈ GW := inGW (i := 560) (by decide +kernel) (by decide +kernel)
theorem ml_LJ_189 : Cond.methodLink "LastJars" 189 y_Se_howMany ∈ GW := inGW (i := 564) (by decide +kernel) (by decide +kernel)
theorem ml_Se_18 : Cond.methodLink "LastJars$Service" 18 y_Se_begin ∈ GW := inGW (i := 568) (by decide +kernel) (by decide +kernel)
theorem ml_Se_22 : Cond.methodLink "LastJars$Service" 22 y_Se_most ∈ GW := inGW (i := 572) (by decide +kernel) (by decide +kernel)
theorem mn_Se_32 : Cond.methodLinkNest "LastJars$Service" 32 y_LJ_isBelow "LastJars" ∈ lw_tbl := List.mem_of_getElem? (i := 575) (by decide +kernel)
theorem ml_Se_64 : Cond.methodLink "LastJars$Service" 64 y_De_decidesBy ∈ GW := inGW (i := 576) (by decide +kernel) (by decide +kernel)
theorem ml_Se_68 : Cond.methodLink "LastJars$Service" 68 Lib.Math.max.name ∈ GW := inGW (i := 577) (by decide +kernel) (by decide +kernel)
theorem ml_LJ_193 : Cond.methodLink "LastJars" 193 y_Se_choose ∈ GW := inGW (i := 578) (by decide +kernel) (by decide +kernel)
theorem ml_Se_41 : Cond.methodLink "LastJars$Service" 41 y_Se_howMany ∈ GW := inGW (i := 582) (by decide +kernel) (by decide +kernel)
theorem ml_Se_74 : Cond.methodLink "LastJars$Service" 74 y_Se_firstChoice ∈ GW := inGW (i := 583) (by decide +kernel) (by decide +kernel)
theorem ml_Se_78 : Cond.methodLink "LastJars$Service" 78 y_Sp_jarAt ∈ GW := inGW (i := 587) (by decide +kernel) (by decide +kernel)
theorem ml_LJ_197 : Cond.methodLink "LastJars" 197 y_Se_jarFor ∈ GW := inGW (i := 588) (by decide +kernel) (by decide +kernel)
theorem ml_La_85 : Cond.methodLink "LastJarsLaw" 85 y_LJ_dear ∈ GW := inGW (i := 592) (by decide +kernel) (by decide +kernel)
theorem ml_LJ_200 : Cond.methodLink "LastJars" 200 y_Se_dearest ∈ GW := inGW (i := 596) (by decide +kernel) (by decide +kernel)
theorem ml_La_89 : Cond.methodLink "LastJarsLaw" 89 y_LJ_reading ∈ GW := inGW (i := 600) (by decide +kernel) (by decide +kernel)
theorem ml_LJ_204 : Cond.methodLink "LastJars" 204 y_Re_take ∈ GW := inGW (i := 604) (by decide +kernel) (by decide +kernel)
theorem ml_La_94 : Cond.methodLink "LastJarsLaw" 94 y_LJ_back ∈ GW := inGW (i := 608) (by decide +kernel) (by decide +kernel)
theorem ml_La_98 : Cond.methodLink "LastJarsLaw" 98 y_LJ_sures ∈ GW := inGW (i := 612) (by decide +kernel) (by decide +kernel)
theorem ml_LJ_207 : Cond.methodLink "LastJars" 207 y_LJ_possible ∈ GW := inGW (i := 616) (by decide +kernel) (by decide +kernel)
theorem ml_LJ_284 : Cond.methodLink "LastJars" 284 y_Re_areSo ∈ GW := inGW (i := 620) (by decide +kernel) (by decide +kernel)
theorem ml_Re_25 : Cond.methodLink "LastJars$Readings" 25 y_Sp_jarAt ∈ GW := inGW (i := 624) (by decide +kernel) (by decide +kernel)
theorem ml_Re_31 : Cond.methodLink "LastJars$Readings" 31 y_Ja_markIn ∈ GW := inGW (i := 625) (by decide +kernel) (by decide +kernel)
theorem ml_La_102 : Cond.methodLink "LastJarsLaw" 102 y_LJ_fades ∈ GW := inGW (i := 626) (by decide +kernel) (by decide +kernel)
theorem ml_La_106 : Cond.methodLink "LastJarsLaw" 106 y_LJ_kinds ∈ GW := inGW (i := 630) (by decide +kernel) (by decide +kernel)
theorem ml_La_110 : Cond.methodLink "LastJarsLaw" 110 y_LJ_odds ∈ GW := inGW (i := 634) (by decide +kernel) (by decide +kernel)
theorem ml_LJ_212 : Cond.methodLink "LastJars" 212 y_Bl_howManyStocked ∈ GW := inGW (i := 639) (by decide +kernel) (by decide +kernel)
theorem ml_LJ_215 : Cond.methodLink "LastJars" 215 y_Bl_howManyDeciding ∈ GW := inGW (i := 642) (by decide +kernel) (by decide +kernel)
theorem ml_LJ_218 : Cond.methodLink "LastJars" 218 y_Bl_greatestDivisor ∈ GW := inGW (i := 645) (by decide +kernel) (by decide +kernel)
theorem ml_La_115 : Cond.methodLink "LastJarsLaw" 115 y_LJ_sheet ∈ GW := inGW (i := 648) (by decide +kernel) (by decide +kernel)
theorem ml_LJ_221 : Cond.methodLink "LastJars" 221 y_Sh_begin ∈ GW := inGW (i := 652) (by decide +kernel) (by decide +kernel)
theorem ml_Sh_26 : Cond.methodLink "LastJars$Sheet" 26 y_jA_fill ∈ GW := inGW (i := 656) (by decide +kernel) (by decide +kernel)
theorem ml_La_119 : Cond.methodLink "LastJarsLaw" 119 y_LJ_lose ∈ GW := inGW (i := 659) (by decide +kernel) (by decide +kernel)
theorem ml_La_123 : Cond.methodLink "LastJarsLaw" 123 y_LJ_put ∈ GW := inGW (i := 663) (by decide +kernel) (by decide +kernel)
theorem ml_LJ_232 : Cond.methodLink "LastJars" 232 y_Sh_change ∈ GW := inGW (i := 667) (by decide +kernel) (by decide +kernel)
theorem ml_Sh_39 : Cond.methodLink "LastJars$Sheet" 39 y_Sh_cut ∈ GW := inGW (i := 671) (by decide +kernel) (by decide +kernel)
theorem ml_La_127 : Cond.methodLink "LastJarsLaw" 127 y_LJ_cell ∈ GW := inGW (i := 675) (by decide +kernel) (by decide +kernel)
theorem ml_LJ_235 : Cond.methodLink "LastJars" 235 y_Sh_at ∈ GW := inGW (i := 679) (by decide +kernel) (by decide +kernel)
theorem ml_La_132 : Cond.methodLink "LastJarsLaw" 132 y_LJ_copy ∈ GW := inGW (i := 680) (by decide +kernel) (by decide +kernel)
theorem ml_LJ_238 : Cond.methodLink "LastJars" 238 y_Sh_hasCells ∈ GW := inGW (i := 684) (by decide +kernel) (by decide +kernel)
theorem ml_LJ_245 : Cond.methodLink "LastJars" 245 arraycopyName ∈ GW := inGW (i := 685) (by decide +kernel) (by decide +kernel)
theorem ml_La_136 : Cond.methodLink "LastJarsLaw" 136 y_LJ_tell ∈ GW := inGW (i := 688) (by decide +kernel) (by decide +kernel)
theorem ml_LJ_254 : Cond.methodLink "LastJars" 254 y_Te_tellLeaf ∈ GW := inGW (i := 692) (by decide +kernel) (by decide +kernel)
theorem ml_Te_13 : Cond.methodLink "LastJars$Teller" 13 y_Te_leave ∈ GW := inGW (i := 696) (by decide +kernel) (by decide +kernel)
theorem ml_LJ_258 : Cond.methodLink "LastJars" 258 y_Te_tellTwist ∈ GW := inGW (i := 700) (by decide +kernel) (by decide +kernel)
theorem ml_Te_22 : Cond.methodLink "LastJars$Teller" 22 y_Te_tellLeaf ∈ GW := inGW (i := 704) (by decide +kernel) (by decide +kernel)
theorem ml_LJ_261 : Cond.methodLink "LastJars" 261 y_Te_tellPlug ∈ GW := inGW (i := 705) (by decide +kernel) (by decide +kernel)
theorem ml_Te_26 : Cond.methodLink "LastJars$Teller" 26 y_Te_tellTwist ∈ GW := inGW (i := 709) (by decide +kernel) (by decide +kernel)
theorem ml_La_140 : Cond.methodLink "LastJarsLaw" 140 y_LJ_sniff ∈ GW := inGW (i := 710) (by decide +kernel) (by decide +kernel)
theorem ml_LJ_264 : Cond.methodLink "LastJars" 264 y_Te_sniffPlug ∈ GW := inGW (i := 714) (by decide +kernel) (by decide +kernel)
theorem ml_LJ_268 : Cond.methodLink "LastJars" 268 y_Te_sniffLent ∈ GW := inGW (i := 718) (by decide +kernel) (by decide +kernel)
theorem ml_La_144 : Cond.methodLink "LastJarsLaw" 144 y_LJ_as ∈ GW := inGW (i := 722) (by decide +kernel) (by decide +kernel)
theorem ml_La_148 : Cond.methodLink "LastJarsLaw" 148 y_LJ_trace ∈ GW := inGW (i := 726) (by decide +kernel) (by decide +kernel)
theorem ml_La_153 : Cond.methodLink "LastJarsLaw" 153 y_LJ_fault ∈ GW := inGW (i := 730) (by decide +kernel) (by decide +kernel)
theorem ml_La_157 : Cond.methodLink "LastJarsLaw" 157 y_LJ_many ∈ GW := inGW (i := 734) (by decide +kernel) (by decide +kernel)
theorem ml_LJ_277 : Cond.methodLink "LastJars" 277 y_Sp_allHalves ∈ GW := inGW (i := 738) (by decide +kernel) (by decide +kernel)
theorem ml_La_12 : Cond.methodLink "LastJarsLaw" 12 y_Mo_init ∈ GW := inGW (i := 744) (by decide +kernel) (by decide +kernel)
theorem ml_Mo_1 : Cond.methodLink "LastJarsModel" 1 objectInit ∈ GW := inGW (i := 747) (by decide +kernel) (by decide +kernel)
theorem ml_La_17 : Cond.methodLink "LastJarsLaw" 17 y_Mo_store ∈ GW := inGW (i := 857) (by decide +kernel) (by decide +kernel)
theorem ml_Mo_145 : Cond.methodLink "LastJarsModel" 145 y_Mo_noSheet ∈ GW := inGW (i := 861) (by decide +kernel) (by decide +kernel)
theorem ml_Mo_104 : Cond.methodLink "LastJarsModel" 104 y_Mo_in ∈ GW := inGW (i := 865) (by decide +kernel) (by decide +kernel)
theorem ml_Mo_149 : Cond.methodLink "LastJarsModel" 149 y_Mo_refused ∈ GW := inGW (i := 868) (by decide +kernel) (by decide +kernel)
theorem ml_Mo_154 : Cond.methodLink "LastJarsModel" 154 y_Mo_cellsBarred ∈ GW := inGW (i := 873) (by decide +kernel) (by decide +kernel)
theorem ml_Mo_137 : Cond.methodLink "LastJarsModel" 137 y_Mo_failed ∈ GW := inGW (i := 877) (by decide +kernel) (by decide +kernel)
theorem ml_Mo_141 : Cond.methodLink "LastJarsModel" 141 y_Mo_isBeyond ∈ GW := inGW (i := 881) (by decide +kernel) (by decide +kernel)
theorem ml_Mo_158 : Cond.methodLink "LastJarsModel" 158 y_Mo_readsStore ∈ GW := inGW (i := 884) (by decide +kernel) (by decide +kernel)
theorem ml_Mo_114 : Cond.methodLink "LastJarsModel" 114 y_Mo_codeAt ∈ GW := inGW (i := 888) (by decide +kernel) (by decide +kernel)
theorem ml_Mo_130 : Cond.methodLink "LastJarsModel" 130 y_Mo_readsJar ∈ GW := inGW (i := 892) (by decide +kernel) (by decide +kernel)
theorem ml_Mo_123 : Cond.methodLink "LastJarsModel" 123 y_Mo_figure ∈ GW := inGW (i := 896) (by decide +kernel) (by decide +kernel)
theorem ml_Mo_134 : Cond.methodLink "LastJarsModel" 134 y_Mo_readsDecider ∈ GW := inGW (i := 901) (by decide +kernel) (by decide +kernel)
theorem ml_La_22 : Cond.methodLink "LastJarsLaw" 22 y_Mo_ofJar ∈ GW := inGW (i := 905) (by decide +kernel) (by decide +kernel)
theorem ml_Mo_170 : Cond.methodLink "LastJarsModel" 170 y_Mo_noJar ∈ GW := inGW (i := 909) (by decide +kernel) (by decide +kernel)
theorem ml_Mo_173 : Cond.methodLink "LastJarsModel" 173 y_Mo_greatestMark ∈ GW := inGW (i := 913) (by decide +kernel) (by decide +kernel)
theorem ml_Mo_167 : Cond.methodLink "LastJarsModel" 167 y_Mo_markOf ∈ GW := inGW (i := 917) (by decide +kernel) (by decide +kernel)
theorem ml_Mo_164 : Cond.methodLink "LastJarsModel" 164 y_Mo_leafMark ∈ GW := inGW (i := 921) (by decide +kernel) (by decide +kernel)
theorem ml_La_26 : Cond.methodLink "LastJarsLaw" 26 y_Mo_ofDecider ∈ GW := inGW (i := 925) (by decide +kernel) (by decide +kernel)
theorem ml_Mo_176 : Cond.methodLink "LastJarsModel" 176 y_Mo_noDecider ∈ GW := inGW (i := 929) (by decide +kernel) (by decide +kernel)
theorem ml_La_30 : Cond.methodLink "LastJarsLaw" 30 y_Mo_cure ∈ GW := inGW (i := 933) (by decide +kernel) (by decide +kernel)
theorem ml_La_34 : Cond.methodLink "LastJarsLaw" 34 y_Mo_fetch ∈ GW := inGW (i := 937) (by decide +kernel) (by decide +kernel)
theorem ml_La_38 : Cond.methodLink "LastJarsLaw" 38 y_Mo_price ∈ GW := inGW (i := 941) (by decide +kernel) (by decide +kernel)
theorem ml_La_42 : Cond.methodLink "LastJarsLaw" 42 y_Mo_dread ∈ GW := inGW (i := 945) (by decide +kernel) (by decide +kernel)
theorem ml_La_46 : Cond.methodLink "LastJarsLaw" 46 y_Mo_pay ∈ GW := inGW (i := 949) (by decide +kernel) (by decide +kernel)
theorem ml_La_50 : Cond.methodLink "LastJarsLaw" 50 y_Mo_mark ∈ GW := inGW (i := 954) (by decide +kernel) (by decide +kernel)
theorem ml_La_54 : Cond.methodLink "LastJarsLaw" 54 y_Mo_blend ∈ GW := inGW (i := 958) (by decide +kernel) (by decide +kernel)
theorem ml_Mo_187 : Cond.methodLink "LastJarsModel" 187 y_Mo_noBlend ∈ GW := inGW (i := 962) (by decide +kernel) (by decide +kernel)
theorem ml_Mo_190 : Cond.methodLink "LastJarsModel" 190 y_Mo_blendOf ∈ GW := inGW (i := 966) (by decide +kernel) (by decide +kernel)
theorem ml_Mo_181 : Cond.methodLink "LastJarsModel" 181 y_Mo_isIn ∈ GW := inGW (i := 970) (by decide +kernel) (by decide +kernel)
theorem ml_Mo_184 : Cond.methodLink "LastJarsModel" 184 y_Mo_bits ∈ GW := inGW (i := 973) (by decide +kernel) (by decide +kernel)
theorem ml_La_58 : Cond.methodLink "LastJarsLaw" 58 y_Mo_hold ∈ GW := inGW (i := 976) (by decide +kernel) (by decide +kernel)
theorem ml_La_62 : Cond.methodLink "LastJarsLaw" 62 y_Mo_sell ∈ GW := inGW (i := 980) (by decide +kernel) (by decide +kernel)
theorem ml_Mo_196 : Cond.methodLink "LastJarsModel" 196 y_Mo_canSell ∈ GW := inGW (i := 984) (by decide +kernel) (by decide +kernel)
theorem ml_Mo_199 : Cond.methodLink "LastJarsModel" 199 y_Mo_sold ∈ GW := inGW (i := 988) (by decide +kernel) (by decide +kernel)
theorem ml_Mo_193 : Cond.methodLink "LastJarsModel" 193 y_Mo_decides ∈ GW := inGW (i := 992) (by decide +kernel) (by decide +kernel)
theorem ml_La_67 : Cond.methodLink "LastJarsLaw" 67 y_Mo_year ∈ GW := inGW (i := 996) (by decide +kernel) (by decide +kernel)
theorem ml_Mo_212 : Cond.methodLink "LastJarsModel" 212 y_Mo_arePairs ∈ GW := inGW (i := 1004) (by decide +kernel) (by decide +kernel)
theorem ml_Mo_215 : Cond.methodLink "LastJarsModel" 215 y_Mo_yearBy ∈ GW := inGW (i := 1008) (by decide +kernel) (by decide +kernel)
theorem ml_La_71 : Cond.methodLink "LastJarsLaw" 71 y_Mo_mix ∈ GW := inGW (i := 1012) (by decide +kernel) (by decide +kernel)
theorem ml_Mo_221 : Cond.methodLink "LastJarsModel" 221 y_Mo_leftNow ∈ GW := inGW (i := 1016) (by decide +kernel) (by decide +kernel)
theorem ml_Mo_218 : Cond.methodLink "LastJarsModel" 218 y_Mo_pricesOf ∈ GW := inGW (i := 1020) (by decide +kernel) (by decide +kernel)
theorem ml_Mo_225 : Cond.methodLink "LastJarsModel" 225 y_Mo_isRather ∈ GW := inGW (i := 1024) (by decide +kernel) (by decide +kernel)
theorem ml_La_76 : Cond.methodLink "LastJarsLaw" 76 y_Mo_like ∈ GW := inGW (i := 1028) (by decide +kernel) (by decide +kernel)
theorem ml_Mo_228 : Cond.methodLink "LastJarsModel" 228 y_Mo_areLike ∈ GW := inGW (i := 1032) (by decide +kernel) (by decide +kernel)
theorem ml_La_80 : Cond.methodLink "LastJarsLaw" 80 y_Mo_guess ∈ GW := inGW (i := 1036) (by decide +kernel) (by decide +kernel)
theorem ml_Mo_235 : Cond.methodLink "LastJarsModel" 235 y_Mo_guessBy ∈ GW := inGW (i := 1040) (by decide +kernel) (by decide +kernel)
theorem ml_Mo_231 : Cond.methodLink "LastJarsModel" 231 y_Mo_isTold ∈ GW := inGW (i := 1044) (by decide +kernel) (by decide +kernel)
theorem ml_La_84 : Cond.methodLink "LastJarsLaw" 84 y_Mo_serve ∈ GW := inGW (i := 1048) (by decide +kernel) (by decide +kernel)
theorem ml_Mo_246 : Cond.methodLink "LastJarsModel" 246 y_Mo_mostServed ∈ GW := inGW (i := 1053) (by decide +kernel) (by decide +kernel)
theorem ml_Mo_238 : Cond.methodLink "LastJarsModel" 238 y_Mo_decideBy ∈ GW := inGW (i := 1057) (by decide +kernel) (by decide +kernel)
theorem ml_La_88 : Cond.methodLink "LastJarsLaw" 88 y_Mo_dear ∈ GW := inGW (i := 1061) (by decide +kernel) (by decide +kernel)
theorem ml_La_93 : Cond.methodLink "LastJarsLaw" 93 y_Mo_reading ∈ GW := inGW (i := 1065) (by decide +kernel) (by decide +kernel)
theorem ml_La_97 : Cond.methodLink "LastJarsLaw" 97 y_Mo_back ∈ GW := inGW (i := 1069) (by decide +kernel) (by decide +kernel)
theorem ml_La_101 : Cond.methodLink "LastJarsLaw" 101 y_Mo_sures ∈ GW := inGW (i := 1073) (by decide +kernel) (by decide +kernel)
theorem ml_Mo_249 : Cond.methodLink "LastJarsModel" 249 y_Mo_areSo ∈ GW := inGW (i := 1077) (by decide +kernel) (by decide +kernel)
theorem ml_La_105 : Cond.methodLink "LastJarsLaw" 105 y_Mo_fades ∈ GW := inGW (i := 1081) (by decide +kernel) (by decide +kernel)
theorem ml_La_109 : Cond.methodLink "LastJarsLaw" 109 y_Mo_kinds ∈ GW := inGW (i := 1085) (by decide +kernel) (by decide +kernel)
theorem ml_La_114 : Cond.methodLink "LastJarsLaw" 114 y_Mo_odds ∈ GW := inGW (i := 1089) (by decide +kernel) (by decide +kernel)
theorem ml_Mo_97 : Cond.methodLink "LastJarsModel" 97 y_Mo_lost ∈ GW := inGW (i := 1093) (by decide +kernel) (by decide +kernel)
theorem ml_Mo_253 : Cond.methodLink "LastJarsModel" 253 y_Mo_share ∈ GW := inGW (i := 1097) (by decide +kernel) (by decide +kernel)
theorem ml_La_118 : Cond.methodLink "LastJarsLaw" 118 y_Mo_sheet ∈ GW := inGW (i := 1100) (by decide +kernel) (by decide +kernel)
theorem ml_La_122 : Cond.methodLink "LastJarsLaw" 122 y_Mo_lose ∈ GW := inGW (i := 1104) (by decide +kernel) (by decide +kernel)
theorem ml_La_126 : Cond.methodLink "LastJarsLaw" 126 y_Mo_put ∈ GW := inGW (i := 1108) (by decide +kernel) (by decide +kernel)
theorem ml_Mo_257 : Cond.methodLink "LastJarsModel" 257 y_Mo_noCell ∈ GW := inGW (i := 1112) (by decide +kernel) (by decide +kernel)
theorem ml_La_131 : Cond.methodLink "LastJarsLaw" 131 y_Mo_cell ∈ GW := inGW (i := 1116) (by decide +kernel) (by decide +kernel)
theorem ml_Mo_260 : Cond.methodLink "LastJarsModel" 260 y_Mo_failedLong ∈ GW := inGW (i := 1120) (by decide +kernel) (by decide +kernel)
theorem ml_La_135 : Cond.methodLink "LastJarsLaw" 135 y_Mo_copy ∈ GW := inGW (i := 1124) (by decide +kernel) (by decide +kernel)
theorem ml_La_139 : Cond.methodLink "LastJarsLaw" 139 y_Mo_tell ∈ GW := inGW (i := 1128) (by decide +kernel) (by decide +kernel)
theorem ml_Mo_267 : Cond.methodLink "LastJarsModel" 267 y_Mo_traced ∈ GW := inGW (i := 1132) (by decide +kernel) (by decide +kernel)
theorem ml_La_143 : Cond.methodLink "LastJarsLaw" 143 y_Mo_sniff ∈ GW := inGW (i := 1136) (by decide +kernel) (by decide +kernel)
theorem ml_La_147 : Cond.methodLink "LastJarsLaw" 147 y_Mo_as ∈ GW := inGW (i := 1140) (by decide +kernel) (by decide +kernel)
theorem ml_La_152 : Cond.methodLink "LastJarsLaw" 152 y_Mo_trace ∈ GW := inGW (i := 1144) (by decide +kernel) (by decide +kernel)
theorem ml_La_156 : Cond.methodLink "LastJarsLaw" 156 y_Mo_fault ∈ GW := inGW (i := 1148) (by decide +kernel) (by decide +kernel)
theorem ml_La_160 : Cond.methodLink "LastJarsLaw" 160 y_Mo_many ∈ GW := inGW (i := 1152) (by decide +kernel) (by decide +kernel)
theorem ml_Mo_271 : Cond.methodLink "LastJarsModel" 271 y_Mo_allHalves ∈ GW := inGW (i := 1156) (by decide +kernel) (by decide +kernel)
theorem ks_max : Cond.static Lib.Math.max.name ∈ GW := inGW (i := 365) (by decide +kernel) (by decide +kernel)
theorem k_max : Cond.code Lib.Math.max.name Lib.Math.max.code 2 (some .int) ∈ GW := inGW (i := 366) (by decide +kernel) (by decide +kernel)
theorem ki_obj : Cond.instanceMethod objectInit ∈ GW := inGW (i := 72) (by decide +kernel) (by decide +kernel)
theorem k_obj : Cond.code objectInit ⟨#[0xb1]⟩ 1 none ∈ GW := inGW (i := 73) (by decide +kernel) (by decide +kernel)
theorem kn_acp : Cond.native arraycopyName ∈ GW := inGW (i := 687) (by decide +kernel) (by decide +kernel)
theorem ks_acp : Cond.static arraycopyName ∈ GW := inGW (i := 686) (by decide +kernel) (by decide +kernel)
