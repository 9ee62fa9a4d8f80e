section
/-- a private method of a class that the tables say can be made, by its rows of tables_1 -/
def lw_okq (q : MethodName × Nat) : Prop := (q.1.cls ≠ "java/lang/invoke/MethodHandle" ∧ q.1.cls ≠ "java/lang/invoke/VarHandle") ∧ Cond.instantiable q.1.cls q.2 ∈ tables_1 ∧ Cond.privateMethod q.1 ∈ tables_1 ∧ Cond.instanceMethod q.1 ∈ tables_1
theorem lw_p0 : lw_okq (⟨"LastJars", "sheetAt", "(I)LLastJars$Sheet;"⟩, 7) := ⟨⟨by decide +kernel, by decide +kernel⟩, List.mem_of_getElem? (i := 19) (by decide +kernel), List.mem_of_getElem? (i := 246) (by decide +kernel), List.mem_of_getElem? (i := 247) (by decide +kernel)⟩
theorem lw_p1 : lw_okq (⟨"LastJars", "refused", "(I)I"⟩, 7) := ⟨⟨by decide +kernel, by decide +kernel⟩, List.mem_of_getElem? (i := 19) (by decide +kernel), List.mem_of_getElem? (i := 253) (by decide +kernel), List.mem_of_getElem? (i := 254) (by decide +kernel)⟩
theorem lw_p2 : lw_okq (⟨"LastJars", "failed", "(I)I"⟩, 7) := ⟨⟨by decide +kernel, by decide +kernel⟩, List.mem_of_getElem? (i := 19) (by decide +kernel), List.mem_of_getElem? (i := 265) (by decide +kernel), List.mem_of_getElem? (i := 266) (by decide +kernel)⟩
theorem lw_p3 : lw_okq (⟨"LastJars$Jar", "greatest", "()I"⟩, 5) := ⟨⟨by decide +kernel, by decide +kernel⟩, List.mem_of_getElem? (i := 36) (by decide +kernel), List.mem_of_getElem? (i := 309) (by decide +kernel), List.mem_of_getElem? (i := 310) (by decide +kernel)⟩
theorem lw_p4 : lw_okq (⟨"LastJars$Jar", "leafMark", "(I)I"⟩, 5) := ⟨⟨by decide +kernel, by decide +kernel⟩, List.mem_of_getElem? (i := 36) (by decide +kernel), List.mem_of_getElem? (i := 317) (by decide +kernel), List.mem_of_getElem? (i := 318) (by decide +kernel)⟩
theorem lw_p5 : lw_okq (⟨"LastJars$Jar", "twistMark", "(I)I"⟩, 5) := ⟨⟨by decide +kernel, by decide +kernel⟩, List.mem_of_getElem? (i := 36) (by decide +kernel), List.mem_of_getElem? (i := 324) (by decide +kernel), List.mem_of_getElem? (i := 325) (by decide +kernel)⟩
theorem lw_p6 : lw_okq (⟨"LastJars", "changeJar", "(III)I"⟩, 7) := ⟨⟨by decide +kernel, by decide +kernel⟩, List.mem_of_getElem? (i := 19) (by decide +kernel), List.mem_of_getElem? (i := 344) (by decide +kernel), List.mem_of_getElem? (i := 345) (by decide +kernel)⟩
theorem lw_p7 : lw_okq (⟨"LastJars", "changeDecider", "(IIII)I"⟩, 7) := ⟨⟨by decide +kernel, by decide +kernel⟩, List.mem_of_getElem? (i := 19) (by decide +kernel), List.mem_of_getElem? (i := 364) (by decide +kernel), List.mem_of_getElem? (i := 365) (by decide +kernel)⟩
theorem lw_p8 : lw_okq (⟨"LastJars$Sales", "begin", "(LLastJars$Shop;)V"⟩, 5) := ⟨⟨by decide +kernel, by decide +kernel⟩, List.mem_of_getElem? (i := 130) (by decide +kernel), List.mem_of_getElem? (i := 444) (by decide +kernel), List.mem_of_getElem? (i := 445) (by decide +kernel)⟩
theorem lw_p9 : lw_okq (⟨"LastJars$Sales", "emptied", "(LLastJars$Shop;)I"⟩, 5) := ⟨⟨by decide +kernel, by decide +kernel⟩, List.mem_of_getElem? (i := 130) (by decide +kernel), List.mem_of_getElem? (i := 453) (by decide +kernel), List.mem_of_getElem? (i := 454) (by decide +kernel)⟩
theorem lw_p10 : lw_okq (⟨"LastJars$Sales", "halvesThen", "(LLastJars$Shop;I)I"⟩, 5) := ⟨⟨by decide +kernel, by decide +kernel⟩, List.mem_of_getElem? (i := 130) (by decide +kernel), List.mem_of_getElem? (i := 457) (by decide +kernel), List.mem_of_getElem? (i := 458) (by decide +kernel)⟩
theorem lw_p11 : lw_okq (⟨"LastJars$Sales", "purseThen", "(LLastJars$Shop;I)I"⟩, 5) := ⟨⟨by decide +kernel, by decide +kernel⟩, List.mem_of_getElem? (i := 130) (by decide +kernel), List.mem_of_getElem? (i := 461) (by decide +kernel), List.mem_of_getElem? (i := 462) (by decide +kernel)⟩
theorem lw_p12 : lw_okq (⟨"LastJars$Service", "begin", "(LLastJars$Shop;)V"⟩, 2) := ⟨⟨by decide +kernel, by decide +kernel⟩, List.mem_of_getElem? (i := 153) (by decide +kernel), List.mem_of_getElem? (i := 529) (by decide +kernel), List.mem_of_getElem? (i := 530) (by decide +kernel)⟩
theorem lw_p13 : lw_okq (⟨"LastJars$Service", "choose", "(LLastJars$Shop;)V"⟩, 2) := ⟨⟨by decide +kernel, by decide +kernel⟩, List.mem_of_getElem? (i := 153) (by decide +kernel), List.mem_of_getElem? (i := 543) (by decide +kernel), List.mem_of_getElem? (i := 544) (by decide +kernel)⟩
theorem lw_p14 : lw_okq (⟨"LastJars$Service", "firstChoice", "(LLastJars$Shop;II)I"⟩, 2) := ⟨⟨by decide +kernel, by decide +kernel⟩, List.mem_of_getElem? (i := 153) (by decide +kernel), List.mem_of_getElem? (i := 548) (by decide +kernel), List.mem_of_getElem? (i := 549) (by decide +kernel)⟩
theorem lw_p15 : lw_okq (⟨"LastJars", "possible", "(III)I"⟩, 7) := ⟨⟨by decide +kernel, by decide +kernel⟩, List.mem_of_getElem? (i := 19) (by decide +kernel), List.mem_of_getElem? (i := 577) (by decide +kernel), List.mem_of_getElem? (i := 578) (by decide +kernel)⟩
def lw_privs_1 : List (MethodName × Nat) := [(⟨"LastJars", "sheetAt", "(I)LLastJars$Sheet;"⟩, 7), (⟨"LastJars", "refused", "(I)I"⟩, 7), (⟨"LastJars", "failed", "(I)I"⟩, 7), (⟨"LastJars$Jar", "greatest", "()I"⟩, 5), (⟨"LastJars$Jar", "leafMark", "(I)I"⟩, 5), (⟨"LastJars$Jar", "twistMark", "(I)I"⟩, 5), (⟨"LastJars", "changeJar", "(III)I"⟩, 7), (⟨"LastJars", "changeDecider", "(IIII)I"⟩, 7), (⟨"LastJars$Sales", "begin", "(LLastJars$Shop;)V"⟩, 5), (⟨"LastJars$Sales", "emptied", "(LLastJars$Shop;)I"⟩, 5), (⟨"LastJars$Sales", "halvesThen", "(LLastJars$Shop;I)I"⟩, 5), (⟨"LastJars$Sales", "purseThen", "(LLastJars$Shop;I)I"⟩, 5), (⟨"LastJars$Service", "begin", "(LLastJars$Shop;)V"⟩, 2), (⟨"LastJars$Service", "choose", "(LLastJars$Shop;)V"⟩, 2), (⟨"LastJars$Service", "firstChoice", "(LLastJars$Shop;II)I"⟩, 2), (⟨"LastJars", "possible", "(III)I"⟩, 7)]
theorem lw_r1 : ∀ q ∈ lw_privs_1, lw_okq q := List.forall_mem_cons.mpr ⟨lw_p0, List.forall_mem_cons.mpr ⟨lw_p1, List.forall_mem_cons.mpr ⟨lw_p2, List.forall_mem_cons.mpr ⟨lw_p3, List.forall_mem_cons.mpr ⟨lw_p4, List.forall_mem_cons.mpr ⟨lw_p5, List.forall_mem_cons.mpr ⟨lw_p6, List.forall_mem_cons.mpr ⟨lw_p7, List.forall_mem_cons.mpr ⟨lw_p8, List.forall_mem_cons.mpr ⟨lw_p9, List.forall_mem_cons.mpr ⟨lw_p10, List.forall_mem_cons.mpr ⟨lw_p11, List.forall_mem_cons.mpr ⟨lw_p12, List.forall_mem_cons.mpr ⟨lw_p13, List.forall_mem_cons.mpr ⟨lw_p14, List.forall_mem_cons.mpr ⟨lw_p15, fun _ h => absurd h List.not_mem_nil⟩⟩⟩⟩⟩⟩⟩⟩⟩⟩⟩⟩⟩⟩⟩⟩
theorem lw_p16 : lw_okq (⟨"LastJars$Sheet", "cut", "(I)I"⟩, 4) := ⟨⟨by decide +kernel, by decide +kernel⟩, List.mem_of_getElem? (i := 198) (by decide +kernel), List.mem_of_getElem? (i := 632) (by decide +kernel), List.mem_of_getElem? (i := 633) (by decide +kernel)⟩
theorem lw_p17 : lw_okq (⟨"LastJars$Teller", "leave", "(I)V"⟩, 1) := ⟨⟨by decide +kernel, by decide +kernel⟩, List.mem_of_getElem? (i := 186) (by decide +kernel), List.mem_of_getElem? (i := 657) (by decide +kernel), List.mem_of_getElem? (i := 658) (by decide +kernel)⟩
theorem lw_p18 : lw_okq (⟨"LastJarsModel", "refused", "(I)I"⟩, 36) := ⟨⟨by decide +kernel, by decide +kernel⟩, List.mem_of_getElem? (i := 703) (by decide +kernel), List.mem_of_getElem? (i := 829) (by decide +kernel), List.mem_of_getElem? (i := 830) (by decide +kernel)⟩
theorem lw_p19 : lw_okq (⟨"LastJarsModel", "cellsBarred", "(IIIJ)I"⟩, 36) := ⟨⟨by decide +kernel, by decide +kernel⟩, List.mem_of_getElem? (i := 703) (by decide +kernel), List.mem_of_getElem? (i := 834) (by decide +kernel), List.mem_of_getElem? (i := 835) (by decide +kernel)⟩
theorem lw_p20 : lw_okq (⟨"LastJarsModel", "failed", "(I)I"⟩, 36) := ⟨⟨by decide +kernel, by decide +kernel⟩, List.mem_of_getElem? (i := 703) (by decide +kernel), List.mem_of_getElem? (i := 838) (by decide +kernel), List.mem_of_getElem? (i := 839) (by decide +kernel)⟩
theorem lw_p21 : lw_okq (⟨"LastJarsModel", "readsStore", "(II)Z"⟩, 36) := ⟨⟨by decide +kernel, by decide +kernel⟩, List.mem_of_getElem? (i := 703) (by decide +kernel), List.mem_of_getElem? (i := 845) (by decide +kernel), List.mem_of_getElem? (i := 846) (by decide +kernel)⟩
theorem lw_p22 : lw_okq (⟨"LastJarsModel", "codeAt", "(II)I"⟩, 36) := ⟨⟨by decide +kernel, by decide +kernel⟩, List.mem_of_getElem? (i := 703) (by decide +kernel), List.mem_of_getElem? (i := 849) (by decide +kernel), List.mem_of_getElem? (i := 850) (by decide +kernel)⟩
theorem lw_p23 : lw_okq (⟨"LastJarsModel", "readsJar", "(II)Z"⟩, 36) := ⟨⟨by decide +kernel, by decide +kernel⟩, List.mem_of_getElem? (i := 703) (by decide +kernel), List.mem_of_getElem? (i := 853) (by decide +kernel), List.mem_of_getElem? (i := 854) (by decide +kernel)⟩
theorem lw_p24 : lw_okq (⟨"LastJarsModel", "figure", "(III)I"⟩, 36) := ⟨⟨by decide +kernel, by decide +kernel⟩, List.mem_of_getElem? (i := 703) (by decide +kernel), List.mem_of_getElem? (i := 857) (by decide +kernel), List.mem_of_getElem? (i := 858) (by decide +kernel)⟩
theorem lw_p25 : lw_okq (⟨"LastJarsModel", "readsDecider", "(II)Z"⟩, 36) := ⟨⟨by decide +kernel, by decide +kernel⟩, List.mem_of_getElem? (i := 703) (by decide +kernel), List.mem_of_getElem? (i := 862) (by decide +kernel), List.mem_of_getElem? (i := 863) (by decide +kernel)⟩
theorem lw_p26 : lw_okq (⟨"LastJarsModel", "noJar", "(I)Z"⟩, 36) := ⟨⟨by decide +kernel, by decide +kernel⟩, List.mem_of_getElem? (i := 703) (by decide +kernel), List.mem_of_getElem? (i := 870) (by decide +kernel), List.mem_of_getElem? (i := 871) (by decide +kernel)⟩
theorem lw_p27 : lw_okq (⟨"LastJarsModel", "greatestMark", "(I)I"⟩, 36) := ⟨⟨by decide +kernel, by decide +kernel⟩, List.mem_of_getElem? (i := 703) (by decide +kernel), List.mem_of_getElem? (i := 874) (by decide +kernel), List.mem_of_getElem? (i := 875) (by decide +kernel)⟩
theorem lw_p28 : lw_okq (⟨"LastJarsModel", "markOf", "(II)I"⟩, 36) := ⟨⟨by decide +kernel, by decide +kernel⟩, List.mem_of_getElem? (i := 703) (by decide +kernel), List.mem_of_getElem? (i := 878) (by decide +kernel), List.mem_of_getElem? (i := 879) (by decide +kernel)⟩
theorem lw_p29 : lw_okq (⟨"LastJarsModel", "leafMark", "(II)I"⟩, 36) := ⟨⟨by decide +kernel, by decide +kernel⟩, List.mem_of_getElem? (i := 703) (by decide +kernel), List.mem_of_getElem? (i := 882) (by decide +kernel), List.mem_of_getElem? (i := 883) (by decide +kernel)⟩
theorem lw_p30 : lw_okq (⟨"LastJarsModel", "noDecider", "(I)Z"⟩, 36) := ⟨⟨by decide +kernel, by decide +kernel⟩, List.mem_of_getElem? (i := 703) (by decide +kernel), List.mem_of_getElem? (i := 890) (by decide +kernel), List.mem_of_getElem? (i := 891) (by decide +kernel)⟩
theorem lw_p31 : lw_okq (⟨"LastJarsModel", "noBlend", "(I)Z"⟩, 36) := ⟨⟨by decide +kernel, by decide +kernel⟩, List.mem_of_getElem? (i := 703) (by decide +kernel), List.mem_of_getElem? (i := 923) (by decide +kernel), List.mem_of_getElem? (i := 924) (by decide +kernel)⟩
def lw_privs_2 : List (MethodName × Nat) := [(⟨"LastJars$Sheet", "cut", "(I)I"⟩, 4), (⟨"LastJars$Teller", "leave", "(I)V"⟩, 1), (⟨"LastJarsModel", "refused", "(I)I"⟩, 36), (⟨"LastJarsModel", "cellsBarred", "(IIIJ)I"⟩, 36), (⟨"LastJarsModel", "failed", "(I)I"⟩, 36), (⟨"LastJarsModel", "readsStore", "(II)Z"⟩, 36), (⟨"LastJarsModel", "codeAt", "(II)I"⟩, 36), (⟨"LastJarsModel", "readsJar", "(II)Z"⟩, 36), (⟨"LastJarsModel", "figure", "(III)I"⟩, 36), (⟨"LastJarsModel", "readsDecider", "(II)Z"⟩, 36), (⟨"LastJarsModel", "noJar", "(I)Z"⟩, 36), (⟨"LastJarsModel", "greatestMark", "(I)I"⟩, 36), (⟨"LastJarsModel", "markOf", "(II)I"⟩, 36), (⟨"LastJarsModel", "leafMark", "(II)I"⟩, 36), (⟨"LastJarsModel", "noDecider", "(I)Z"⟩, 36), (⟨"LastJarsModel", "noBlend", "(I)Z"⟩, 36)]
theorem lw_r2 : ∀ q ∈ lw_privs_2, lw_okq q := List.forall_mem_cons.mpr ⟨lw_p16, List.forall_mem_cons.mpr ⟨lw_p17, List.forall_mem_cons.mpr ⟨lw_p18, List.forall_mem_cons.mpr ⟨lw_p19, List.forall_mem_cons.mpr ⟨lw_p20, List.forall_mem_cons.mpr ⟨lw_p21, List.forall_mem_cons.mpr ⟨lw_p22, List.forall_mem_cons.mpr ⟨lw_p23, List.forall_mem_cons.mpr ⟨lw_p24, List.forall_mem_cons.mpr ⟨lw_p25, List.forall_mem_cons.mpr ⟨lw_p26, List.forall_mem_cons.mpr ⟨lw_p27, List.forall_mem_cons.mpr ⟨lw_p28, List.forall_mem_cons.mpr ⟨lw_p29, List.forall_mem_cons.mpr ⟨lw_p30, List.forall_mem_cons.mpr ⟨lw_p31, fun _ h => absurd h List.not_mem_nil⟩⟩⟩⟩⟩⟩⟩⟩⟩⟩⟩⟩⟩⟩⟩⟩
theorem lw_p32 : lw_okq (⟨"LastJarsModel", "blendOf", "(II)I"⟩, 36) := ⟨⟨by decide +kernel, by decide +kernel⟩, List.mem_of_getElem? (i := 703) (by decide +kernel), List.mem_of_getElem? (i := 927) (by decide +kernel), List.mem_of_getElem? (i := 928) (by decide +kernel)⟩
theorem lw_p33 : lw_okq (⟨"LastJarsModel", "canSell", "(II)Z"⟩, 36) := ⟨⟨by decide +kernel, by decide +kernel⟩, List.mem_of_getElem? (i := 703) (by decide +kernel), List.mem_of_getElem? (i := 945) (by decide +kernel), List.mem_of_getElem? (i := 946) (by decide +kernel)⟩
theorem lw_p34 : lw_okq (⟨"LastJarsModel", "sold", "(II)I"⟩, 36) := ⟨⟨by decide +kernel, by decide +kernel⟩, List.mem_of_getElem? (i := 703) (by decide +kernel), List.mem_of_getElem? (i := 949) (by decide +kernel), List.mem_of_getElem? (i := 950) (by decide +kernel)⟩
theorem lw_p35 : lw_okq (⟨"LastJarsModel", "decides", "(II)Z"⟩, 36) := ⟨⟨by decide +kernel, by decide +kernel⟩, List.mem_of_getElem? (i := 703) (by decide +kernel), List.mem_of_getElem? (i := 953) (by decide +kernel), List.mem_of_getElem? (i := 954) (by decide +kernel)⟩
theorem lw_p36 : lw_okq (⟨"LastJarsModel", "arePairs", "(II)Z"⟩, 36) := ⟨⟨by decide +kernel, by decide +kernel⟩, List.mem_of_getElem? (i := 703) (by decide +kernel), List.mem_of_getElem? (i := 965) (by decide +kernel), List.mem_of_getElem? (i := 966) (by decide +kernel)⟩
theorem lw_p37 : lw_okq (⟨"LastJarsModel", "yearBy", "(III)I"⟩, 36) := ⟨⟨by decide +kernel, by decide +kernel⟩, List.mem_of_getElem? (i := 703) (by decide +kernel), List.mem_of_getElem? (i := 969) (by decide +kernel), List.mem_of_getElem? (i := 970) (by decide +kernel)⟩
theorem lw_p38 : lw_okq (⟨"LastJarsModel", "leftNow", "()I"⟩, 36) := ⟨⟨by decide +kernel, by decide +kernel⟩, List.mem_of_getElem? (i := 703) (by decide +kernel), List.mem_of_getElem? (i := 977) (by decide +kernel), List.mem_of_getElem? (i := 978) (by decide +kernel)⟩
theorem lw_p39 : lw_okq (⟨"LastJarsModel", "pricesOf", "(I)I"⟩, 36) := ⟨⟨by decide +kernel, by decide +kernel⟩, List.mem_of_getElem? (i := 703) (by decide +kernel), List.mem_of_getElem? (i := 981) (by decide +kernel), List.mem_of_getElem? (i := 982) (by decide +kernel)⟩
theorem lw_p40 : lw_okq (⟨"LastJarsModel", "isRather", "(II)Z"⟩, 36) := ⟨⟨by decide +kernel, by decide +kernel⟩, List.mem_of_getElem? (i := 703) (by decide +kernel), List.mem_of_getElem? (i := 985) (by decide +kernel), List.mem_of_getElem? (i := 986) (by decide +kernel)⟩
theorem lw_p41 : lw_okq (⟨"LastJarsModel", "areLike", "(II)Z"⟩, 36) := ⟨⟨by decide +kernel, by decide +kernel⟩, List.mem_of_getElem? (i := 703) (by decide +kernel), List.mem_of_getElem? (i := 993) (by decide +kernel), List.mem_of_getElem? (i := 994) (by decide +kernel)⟩
theorem lw_p42 : lw_okq (⟨"LastJarsModel", "guessBy", "(III)I"⟩, 36) := ⟨⟨by decide +kernel, by decide +kernel⟩, List.mem_of_getElem? (i := 703) (by decide +kernel), List.mem_of_getElem? (i := 1001) (by decide +kernel), List.mem_of_getElem? (i := 1002) (by decide +kernel)⟩
theorem lw_p43 : lw_okq (⟨"LastJarsModel", "isTold", "(III)Z"⟩, 36) := ⟨⟨by decide +kernel, by decide +kernel⟩, List.mem_of_getElem? (i := 703) (by decide +kernel), List.mem_of_getElem? (i := 1005) (by decide +kernel), List.mem_of_getElem? (i := 1006) (by decide +kernel)⟩
theorem lw_p44 : lw_okq (⟨"LastJarsModel", "mostServed", "()I"⟩, 36) := ⟨⟨by decide +kernel, by decide +kernel⟩, List.mem_of_getElem? (i := 703) (by decide +kernel), List.mem_of_getElem? (i := 1014) (by decide +kernel), List.mem_of_getElem? (i := 1015) (by decide +kernel)⟩
theorem lw_p45 : lw_okq (⟨"LastJarsModel", "decideBy", "(II)I"⟩, 36) := ⟨⟨by decide +kernel, by decide +kernel⟩, List.mem_of_getElem? (i := 703) (by decide +kernel), List.mem_of_getElem? (i := 1018) (by decide +kernel), List.mem_of_getElem? (i := 1019) (by decide +kernel)⟩
theorem lw_p46 : lw_okq (⟨"LastJarsModel", "areSo", "()Z"⟩, 36) := ⟨⟨by decide +kernel, by decide +kernel⟩, List.mem_of_getElem? (i := 703) (by decide +kernel), List.mem_of_getElem? (i := 1038) (by decide +kernel), List.mem_of_getElem? (i := 1039) (by decide +kernel)⟩
theorem lw_p47 : lw_okq (⟨"LastJarsModel", "noCell", "(II)I"⟩, 36) := ⟨⟨by decide +kernel, by decide +kernel⟩, List.mem_of_getElem? (i := 703) (by decide +kernel), List.mem_of_getElem? (i := 1073) (by decide +kernel), List.mem_of_getElem? (i := 1074) (by decide +kernel)⟩
def lw_privs_3 : List (MethodName × Nat) := [(⟨"LastJarsModel", "blendOf", "(II)I"⟩, 36), (⟨"LastJarsModel", "canSell", "(II)Z"⟩, 36), (⟨"LastJarsModel", "sold", "(II)I"⟩, 36), (⟨"LastJarsModel", "decides", "(II)Z"⟩, 36), (⟨"LastJarsModel", "arePairs", "(II)Z"⟩, 36), (⟨"LastJarsModel", "yearBy", "(III)I"⟩, 36), (⟨"LastJarsModel", "leftNow", "()I"⟩, 36), (⟨"LastJarsModel", "pricesOf", "(I)I"⟩, 36), (⟨"LastJarsModel", "isRather", "(II)Z"⟩, 36), (⟨"LastJarsModel", "areLike", "(II)Z"⟩, 36), (⟨"LastJarsModel", "guessBy", "(III)I"⟩, 36), (⟨"LastJarsModel", "isTold", "(III)Z"⟩, 36), (⟨"LastJarsModel", "mostServed", "()I"⟩, 36), (⟨"LastJarsModel", "decideBy", "(II)I"⟩, 36), (⟨"LastJarsModel", "areSo", "()Z"⟩, 36), (⟨"LastJarsModel", "noCell", "(II)I"⟩, 36)]
theorem lw_r3 : ∀ q ∈ lw_privs_3, lw_okq q := List.forall_mem_cons.mpr ⟨lw_p32, List.forall_mem_cons.mpr ⟨lw_p33, List.forall_mem_cons.mpr ⟨lw_p34, List.forall_mem_cons.mpr ⟨lw_p35, List.forall_mem_cons.mpr ⟨lw_p36, List.forall_mem_cons.mpr ⟨lw_p37, List.forall_mem_cons.mpr ⟨lw_p38, List.forall_mem_cons.mpr ⟨lw_p39, List.forall_mem_cons.mpr ⟨lw_p40, List.forall_mem_cons.mpr ⟨lw_p41, List.forall_mem_cons.mpr ⟨lw_p42, List.forall_mem_cons.mpr ⟨lw_p43, List.forall_mem_cons.mpr ⟨lw_p44, List.forall_mem_cons.mpr ⟨lw_p45, List.forall_mem_cons.mpr ⟨lw_p46, List.forall_mem_cons.mpr ⟨lw_p47, fun _ h => absurd h List.not_mem_nil⟩⟩⟩⟩⟩⟩⟩⟩⟩⟩⟩⟩⟩⟩⟩⟩
theorem lw_p48 : lw_okq (⟨"LastJarsModel", "failedLong", "(I)J"⟩, 36) := ⟨⟨by decide +kernel, by decide +kernel⟩, List.mem_of_getElem? (i := 703) (by decide +kernel), List.mem_of_getElem? (i := 1081) (by decide +kernel), List.mem_of_getElem? (i := 1082) (by decide +kernel)⟩
theorem lw_p49 : lw_okq (⟨"LastJarsModel", "traced", "(I)V"⟩, 36) := ⟨⟨by decide +kernel, by decide +kernel⟩, List.mem_of_getElem? (i := 703) (by decide +kernel), List.mem_of_getElem? (i := 1093) (by decide +kernel), List.mem_of_getElem? (i := 1094) (by decide +kernel)⟩
theorem lw_p50 : lw_okq (⟨"LastJarsModel", "allHalves", "()I"⟩, 36) := ⟨⟨by decide +kernel, by decide +kernel⟩, List.mem_of_getElem? (i := 703) (by decide +kernel), List.mem_of_getElem? (i := 1117) (by decide +kernel), List.mem_of_getElem? (i := 1118) (by decide +kernel)⟩
def lw_privs_4 : List (MethodName × Nat) := [(⟨"LastJarsModel", "failedLong", "(I)J"⟩, 36), (⟨"LastJarsModel", "traced", "(I)V"⟩, 36), (⟨"LastJarsModel", "allHalves", "()I"⟩, 36)]
theorem lw_r4 : ∀ q ∈ lw_privs_4, lw_okq q := List.forall_mem_cons.mpr ⟨lw_p48, List.forall_mem_cons.mpr ⟨lw_p49, List.forall_mem_cons.mpr ⟨lw_p50, fun _ h => absurd h List.not_mem_nil⟩⟩⟩
def lw_privs : List (MethodName × Nat) := lw_privs_1 ++ (lw_privs_2 ++ (lw_privs_3 ++ (lw_privs_4)))
def lw_tbl : List Cond := k2_sels lw_privs ++ tables_1
theorem lw_privs_ok : ∀ q ∈ lw_privs, lw_okq q := by
  show ∀ q ∈ lw_privs_1 ++ (lw_privs_2 ++ (lw_privs_3 ++ (lw_privs_4))), lw_okq q
  exact List.forall_mem_append.mpr ⟨lw_r1, List.forall_mem_append.mpr ⟨lw_r2, List.forall_mem_append.mpr ⟨lw_r3, lw_r4⟩⟩⟩
def GW : List Cond := lw_tbl.filter goodWord
theorem inGW {i : Nat} {w : Cond} (h : lw_tbl[i]? = some w) (g : goodWord w = true) : w ∈ GW := List.mem_filter.mpr ⟨List.mem_of_getElem? h, g⟩
theorem inGWs (ws : List Cond) (is : List Nat) (h : ws.map some = is.map (fun i => lw_tbl[i]?)) (g : ws.all goodWord = true) : ∀ w ∈ ws, w ∈ GW := by
  intro w hw
  have h1 : some w ∈ ws.map some := List.mem_map.mpr ⟨w, hw, rfl⟩
  rw [h] at h1
  obtain ⟨i, -, hi⟩ := List.mem_map.mp h1
  exact inGW hi (List.all_eq_true.mp g w hw)
theorem GW_good : GoodIn GW GW := fun w hw => ⟨hw, good_of_word (List.mem_filter.mp hw).2⟩
theorem GW_sub : ∀ w ∈ GW, w ∈ lw_tbl := fun w hw => (List.mem_filter.mp hw).1
def T_De : u_T := fun k => match k with
  | 0 => ("LastJars$Decider", "need", "I", false)
  | 1 => ("LastJars$Decider", "when", "I", false)
  | 2 => ("LastJars$Decider", "purse", "I", false)
  | _ => ("LastJars$Decider", "decided", "I", false)
def ty_De : Nat → FieldType := fun k => match k with
  | 0 => .int
  | 1 => .int
  | 2 => .int
  | _ => .int
theorem in_De : ∀ w ∈ u_ws "LastJars$Decider" T_De 4, w ∈ GW := inGWs _ [143, 145, 147, 149] (by decide +kernel) (by decide +kernel)
theorem tyok_De : ∀ k, k < 4 → parseFieldDescriptor (T_De k).2.2.1 = some (ty_De k) := by decide +kernel
theorem nm_De : ∀ a, a < 4 → ∀ b, b < 4 → a ≠ b → (T_De a).2.1 ≠ (T_De b).2.1 := by decide +kernel
def T_Ja : u_T := fun k => match k with
  | 0 => ("LastJars$Jar", "kind", "I", false)
  | 1 => ("LastJars$Jar", "sure", "I", false)
  | 2 => ("LastJars$Jar", "fade", "I", false)
  | 3 => ("LastJars$Jar", "halves", "I", false)
  | _ => ("LastJars$Jar", "price", "I", false)
def ty_Ja : Nat → FieldType := fun k => match k with
  | 0 => .int
  | 1 => .int
  | 2 => .int
  | 3 => .int
  | _ => .int
theorem in_Ja : ∀ w ∈ u_ws "LastJars$Jar" T_Ja 5, w ∈ GW := inGWs _ [112, 114, 116, 118, 120] (by decide +kernel) (by decide +kernel)
theorem tyok_Ja : ∀ k, k < 5 → parseFieldDescriptor (T_Ja k).2.2.1 = some (ty_Ja k) := by decide +kernel
theorem nm_Ja : ∀ a, a < 5 → ∀ b, b < 5 → a ≠ b → (T_Ja a).2.1 ≠ (T_Ja b).2.1 := by decide +kernel
def T_Re : u_T := fun k => match k with
  | 0 => ("LastJars$Readings", "jars", "[I", true)
  | 1 => ("LastJars$Readings", "minutes", "[I", true)
  | 2 => ("LastJars$Readings", "marks", "[I", true)
  | _ => ("LastJars$Readings", "count", "I", false)
def ty_Re : Nat → FieldType := fun k => match k with
  | 0 => .array .int
  | 1 => .array .int
  | 2 => .array .int
  | _ => .int
theorem in_Re : ∀ w ∈ u_ws "LastJars$Readings" T_Re 4, w ∈ GW := inGWs _ [227, 229, 231, 233] (by decide +kernel) (by decide +kernel)
theorem tyok_Re : ∀ k, k < 4 → parseFieldDescriptor (T_Re k).2.2.1 = some (ty_Re k) := by decide +kernel
theorem nm_Re : ∀ a, a < 4 → ∀ b, b < 4 → a ≠ b → (T_Re a).2.1 ≠ (T_Re b).2.1 := by decide +kernel
def T_Sa : u_T := fun k => match k with
  | 0 => ("LastJars$Sales", "halves", "[I", true)
  | 1 => ("LastJars$Sales", "purses", "[I", true)
  | 2 => ("LastJars$Sales", "firstWrong", "I", false)
  | 3 => ("LastJars$Sales", "decided", "I", false)
  | _ => ("LastJars$Sales", "pence", "I", false)
def ty_Sa : Nat → FieldType := fun k => match k with
  | 0 => .array .int
  | 1 => .array .int
  | 2 => .int
  | 3 => .int
  | _ => .int
theorem in_Sa : ∀ w ∈ u_ws "LastJars$Sales" T_Sa 5, w ∈ GW := inGWs _ [191, 193, 195, 197, 199] (by decide +kernel) (by decide +kernel)
theorem tyok_Sa : ∀ k, k < 5 → parseFieldDescriptor (T_Sa k).2.2.1 = some (ty_Sa k) := by decide +kernel
theorem nm_Sa : ∀ a, a < 5 → ∀ b, b < 5 → a ≠ b → (T_Sa a).2.1 ≠ (T_Sa b).2.1 := by decide +kernel
def T_Se : u_T := fun k => match k with
  | 0 => ("LastJars$Service", "left", "[I", true)
  | _ => ("LastJars$Service", "chosen", "[I", true)
def ty_Se : Nat → FieldType := fun k => match k with
  | 0 => .array .int
  | _ => .array .int
theorem in_Se : ∀ w ∈ u_ws "LastJars$Service" T_Se 2, w ∈ GW := inGWs _ [211, 213] (by decide +kernel) (by decide +kernel)
theorem tyok_Se : ∀ k, k < 2 → parseFieldDescriptor (T_Se k).2.2.1 = some (ty_Se k) := by decide +kernel
theorem nm_Se : ∀ a, a < 2 → ∀ b, b < 2 → a ≠ b → (T_Se a).2.1 ≠ (T_Se b).2.1 := by decide +kernel
def T_Sh : u_T := fun k => match k with
  | 0 => ("LastJars$Sheet", "cells", "[I", true)
  | 1 => ("LastJars$Sheet", "hasRow", "Z", false)
  | 2 => ("LastJars$Sheet", "lane", "I", false)
  | _ => ("LastJars$Sheet", "length", "I", false)
def ty_Sh : Nat → FieldType := fun k => match k with
  | 0 => .array .int
  | 1 => .boolean
  | 2 => .int
  | _ => .int
theorem in_Sh : ∀ w ∈ u_ws "LastJars$Sheet" T_Sh 4, w ∈ GW := inGWs _ [261, 263, 265, 267] (by decide +kernel) (by decide +kernel)
theorem tyok_Sh : ∀ k, k < 4 → parseFieldDescriptor (T_Sh k).2.2.1 = some (ty_Sh k) := by decide +kernel
theorem nm_Sh : ∀ a, a < 4 → ∀ b, b < 4 → a ≠ b → (T_Sh a).2.1 ≠ (T_Sh b).2.1 := by decide +kernel
def T_Sp : u_T := fun k => match k with
  | 0 => ("LastJars$Shop", "jars", "[LLastJars$Jar;", true)
  | 1 => ("LastJars$Shop", "deciders", "[LLastJars$Decider;", true)
  | 2 => ("LastJars$Shop", "jarCount", "I", false)
  | _ => ("LastJars$Shop", "deciderCount", "I", false)
def ty_Sp : Nat → FieldType := fun k => match k with
  | 0 => .array (.object "LastJars$Jar")
  | 1 => .array (.object "LastJars$Decider")
  | 2 => .int
  | _ => .int
theorem in_Sp : ∀ w ∈ u_ws "LastJars$Shop" T_Sp 4, w ∈ GW := inGWs _ [171, 173, 175, 177] (by decide +kernel) (by decide +kernel)
theorem tyok_Sp : ∀ k, k < 4 → parseFieldDescriptor (T_Sp k).2.2.1 = some (ty_Sp k) := by decide +kernel
theorem nm_Sp : ∀ a, a < 4 → ∀ b, b < 4 → a ≠ b → (T_Sp a).2.1 ≠ (T_Sp b).2.1 := by decide +kernel
def T_Te : u_T := fun k => match k with
  | _ => ("LastJars$Teller", "left", "I", false)
def ty_Te : Nat → FieldType := fun k => match k with
  | _ => .int
theorem in_Te : ∀ w ∈ u_ws "LastJars$Teller" T_Te 1, w ∈ GW := inGWs _ [244] (by decide +kernel) (by decide +kernel)
theorem tyok_Te : ∀ k, k < 1 → parseFieldDescriptor (T_Te k).2.2.1 = some (ty_Te k) := by decide +kernel
theorem nm_Te : ∀ a, a < 1 → ∀ b, b < 1 → a ≠ b → (T_Te a).2.1 ≠ (T_Te b).2.1 := by decide +kernel
def T_LJ : u_T := fun k => match k with
  | 0 => ("LastJars", "shop", "LLastJars$Shop;", true)
  | 1 => ("LastJars", "sales", "LLastJars$Sales;", true)
  | 2 => ("LastJars", "service", "LLastJars$Service;", true)
  | 3 => ("LastJars", "readings", "LLastJars$Readings;", true)
  | 4 => ("LastJars", "teller", "LLastJars$Teller;", true)
  | 5 => ("LastJars", "sheets", "[LLastJars$Sheet;", true)
  | _ => ("LastJars", "latestFault", "I", false)
def ty_LJ : Nat → FieldType := fun k => match k with
  | 0 => .object "LastJars$Shop"
  | 1 => .object "LastJars$Sales"
  | 2 => .object "LastJars$Service"
  | 3 => .object "LastJars$Readings"
  | 4 => .object "LastJars$Teller"
  | 5 => .array (.object "LastJars$Sheet")
  | _ => .int
theorem in_LJ : ∀ w ∈ u_ws "LastJars" T_LJ 7, w ∈ GW := inGWs _ [277, 279, 281, 283, 285, 287, 289] (by decide +kernel) (by decide +kernel)
theorem tyok_LJ : ∀ k, k < 7 → parseFieldDescriptor (T_LJ k).2.2.1 = some (ty_LJ k) := by decide +kernel
theorem nm_LJ : ∀ a, a < 7 → ∀ b, b < 7 → a ≠ b → (T_LJ a).2.1 ≠ (T_LJ b).2.1 := by decide +kernel
def T_Mo : u_T := fun k => match k with
  | 0 => ("LastJarsModel", "fault", "I", false)
  | 1 => ("LastJarsModel", "jars", "I", false)
  | 2 => ("LastJarsModel", "kindOf", "[I", true)
  | 3 => ("LastJarsModel", "sureOf", "[I", true)
  | 4 => ("LastJarsModel", "fadeOf", "[I", true)
  | 5 => ("LastJarsModel", "halvesOf", "[I", true)
  | 6 => ("LastJarsModel", "priceOf", "[I", true)
  | 7 => ("LastJarsModel", "deciders", "I", false)
  | 8 => ("LastJarsModel", "needOf", "[I", true)
  | 9 => ("LastJarsModel", "whenOf", "[I", true)
  | 10 => ("LastJarsModel", "purseOf", "[I", true)
  | 11 => ("LastJarsModel", "decidedBy", "[I", true)
  | 12 => ("LastJarsModel", "readAt", "I", false)
  | 13 => ("LastJarsModel", "readJars", "I", false)
  | 14 => ("LastJarsModel", "readDeciders", "I", false)
  | 15 => ("LastJarsModel", "readKind", "[I", true)
  | 16 => ("LastJarsModel", "readSure", "[I", true)
  | 17 => ("LastJarsModel", "readFade", "[I", true)
  | 18 => ("LastJarsModel", "readHalves", "[I", true)
  | 19 => ("LastJarsModel", "readPrice", "[I", true)
  | 20 => ("LastJarsModel", "readNeed", "[I", true)
  | 21 => ("LastJarsModel", "readWhen", "[I", true)
  | 22 => ("LastJarsModel", "readPurse", "[I", true)
  | 23 => ("LastJarsModel", "halvesKept", "[I", true)
  | 24 => ("LastJarsModel", "purseKept", "[I", true)
  | 25 => ("LastJarsModel", "takenOf", "[I", true)
  | 26 => ("LastJarsModel", "servedRow", "I", false)
  | 27 => ("LastJarsModel", "readings", "I", false)
  | 28 => ("LastJarsModel", "readingOf", "[I", true)
  | 29 => ("LastJarsModel", "readingOn", "[I", true)
  | 30 => ("LastJarsModel", "readingWas", "[I", true)
  | 31 => ("LastJarsModel", "sheetSize", "[I", true)
  | 32 => ("LastJarsModel", "sheetLane", "[I", true)
  | 33 => ("LastJarsModel", "sheet", "[I", true)
  | 34 => ("LastJarsModel", "hands", "[I", true)
  | _ => ("LastJarsModel", "traceNow", "I", false)
def ty_Mo : Nat → FieldType := fun k => match k with
  | 0 => .int
  | 1 => .int
  | 2 => .array .int
  | 3 => .array .int
  | 4 => .array .int
  | 5 => .array .int
  | 6 => .array .int
  | 7 => .int
  | 8 => .array .int
  | 9 => .array .int
  | 10 => .array .int
  | 11 => .array .int
  | 12 => .int
  | 13 => .int
  | 14 => .int
  | 15 => .array .int
  | 16 => .array .int
  | 17 => .array .int
  | 18 => .array .int
  | 19 => .array .int
  | 20 => .array .int
  | 21 => .array .int
  | 22 => .array .int
  | 23 => .array .int
  | 24 => .array .int
  | 25 => .array .int
  | 26 => .int
  | 27 => .int
  | 28 => .array .int
  | 29 => .array .int
  | 30 => .array .int
  | 31 => .array .int
  | 32 => .array .int
  | 33 => .array .int
  | 34 => .array .int
  | _ => .int
theorem in_Mo : ∀ w ∈ u_ws "LastJarsModel" T_Mo 36, w ∈ GW := inGWs _ [795, 797, 799, 801, 803, 805, 807, 809, 811, 813, 815, 817, 819, 821, 823, 825, 827, 829, 831, 833, 835, 837, 839, 841, 843, 845, 847, 849, 851, 853, 855, 857, 859, 861, 863, 865] (by decide +kernel) (by decide +kernel)
theorem tyok_Mo : ∀ k, k < 36 → parseFieldDescriptor (T_Mo k).2.2.1 = some (ty_Mo k) := by decide +kernel
theorem nm_Mo : ∀ a, a < 36 → ∀ b, b < 36 → a ≠ b → (T_Mo a).2.1 ≠ (T_Mo b).2.1 := by decide +kernel
abbrev CL : List vw_C := [("LastJars$Decider", T_De, 4), ("LastJars$Jar", T_Ja, 5), ("LastJars$Readings", T_Re, 4), ("LastJars$Sales", T_Sa, 5), ("LastJars$Service", T_Se, 2), ("LastJars$Sheet", T_Sh, 4), ("LastJars$Shop", T_Sp, 4), ("LastJars$Teller", T_Te, 1), ("LastJars", T_LJ, 7), ("LastJarsModel", T_Mo, 36)]
def tyF (ci : Nat) : Nat → FieldType := match ci with
  | 0 => ty_De
  | 1 => ty_Ja
  | 2 => ty_Re
  | 3 => ty_Sa
  | 4 => ty_Se
  | 5 => ty_Sh
  | 6 => ty_Sp
  | 7 => ty_Te
  | 8 => ty_LJ
  | _ => ty_Mo
def CLok (ci : Nat) (q : vw_C) : Prop := (∀ w ∈ u_ws q.1 q.2.1 q.2.2, w ∈ GW) ∧ (∀ k, k < q.2.2 → parseFieldDescriptor (q.2.1 k).2.2.1 = some (tyF ci k)) ∧ (∀ a, a < q.2.2 → ∀ b, b < q.2.2 → a ≠ b → (q.2.1 a).2.1 ≠ (q.2.1 b).2.1)
theorem CL_ok : ∀ (ci : Nat) (q : vw_C), CL[ci]? = some q → CLok ci q := by
  intro ci q h
  match ci, h with
  | 0, h => cases h; exact ⟨in_De, tyok_De, nm_De⟩
  | 1, h => cases h; exact ⟨in_Ja, tyok_Ja, nm_Ja⟩
  | 2, h => cases h; exact ⟨in_Re, tyok_Re, nm_Re⟩
  | 3, h => cases h; exact ⟨in_Sa, tyok_Sa, nm_Sa⟩
  | 4, h => cases h; exact ⟨in_Se, tyok_Se, nm_Se⟩
  | 5, h => cases h; exact ⟨in_Sh, tyok_Sh, nm_Sh⟩
  | 6, h => cases h; exact ⟨in_Sp, tyok_Sp, nm_Sp⟩
  | 7, h => cases h; exact ⟨in_Te, tyok_Te, nm_Te⟩
  | 8, h => cases h; exact ⟨in_LJ, tyok_LJ, nm_LJ⟩
  | 9, h => cases h; exact ⟨in_Mo, tyok_Mo, nm_Mo⟩
  | n + 10, h => simp [CL] at h
theorem ac_int : Cond.arrayClass .int ∈ GW := inGW (i := 202) (by decide +kernel) rfl
theorem ao_Ja : Cond.arrayOver (.object "LastJars$Jar") ∈ lw_tbl := List.mem_of_getElem? (i := 84) (by decide +kernel)
theorem ao_De : Cond.arrayOver (.object "LastJars$Decider") ∈ lw_tbl := List.mem_of_getElem? (i := 86) (by decide +kernel)
theorem ao_Sh : Cond.arrayOver (.object "LastJars$Sheet") ∈ lw_tbl := List.mem_of_getElem? (i := 248) (by decide +kernel)
theorem io_De : Cond.instantiable "LastJars$Decider" 4 ∈ GW := inGW (i := 123) (by decide +kernel) (by decide +kernel)
theorem io_Ja : Cond.instantiable "LastJars$Jar" 5 ∈ GW := inGW (i := 87) (by decide +kernel) (by decide +kernel)
theorem io_Re : Cond.instantiable "LastJars$Readings" 4 ∈ GW := inGW (i := 217) (by decide +kernel) (by decide +kernel)
theorem io_Sa : Cond.instantiable "LastJars$Sales" 5 ∈ GW := inGW (i := 181) (by decide +kernel) (by decide +kernel)
theorem io_Se : Cond.instantiable "LastJars$Service" 2 ∈ GW := inGW (i := 204) (by decide +kernel) (by decide +kernel)
theorem io_Sh : Cond.instantiable "LastJars$Sheet" 4 ∈ GW := inGW (i := 249) (by decide +kernel) (by decide +kernel)
theorem io_Sp : Cond.instantiable "LastJars$Shop" 4 ∈ GW := inGW (i := 78) (by decide +kernel) (by decide +kernel)
theorem io_Te : Cond.instantiable "LastJars$Teller" 1 ∈ GW := inGW (i := 237) (by decide +kernel) (by decide +kernel)
theorem io_LJ : Cond.instantiable "LastJars" 7 ∈ GW := inGW (i := 70) (by decide +kernel) (by decide +kernel)
theorem io_Mo : Cond.instantiable "LastJarsModel" 36 ∈ GW := inGW (i := 754) (by decide +kernel) (by decide +kernel)
theorem ii_La : Cond.initialized "LastJarsLaw" ∈ GW := inGW (i := 51) (by decide +kernel) (by decide +kernel)
theorem ii_LJ : Cond.initialized "LastJars" ∈ GW := inGW (i := 52) (by decide +kernel) (by decide +kernel)
theorem ii_Sp : Cond.initialized "LastJars$Shop" ∈ GW := inGW (i := 53) (by decide +kernel) (by decide +kernel)
theorem ii_Ja : Cond.initialized "LastJars$Jar" ∈ GW := inGW (i := 54) (by decide +kernel) (by decide +kernel)
theorem ii_De : Cond.initialized "LastJars$Decider" ∈ GW := inGW (i := 55) (by decide +kernel) (by decide +kernel)
theorem ii_Sa : Cond.initialized "LastJars$Sales" ∈ GW := inGW (i := 56) (by decide +kernel) (by decide +kernel)
theorem ii_Se : Cond.initialized "LastJars$Service" ∈ GW := inGW (i := 57) (by decide +kernel) (by decide +kernel)
theorem ii_Re : Cond.initialized "LastJars$Readings" ∈ GW := inGW (i := 58) (by decide +kernel) (by decide +kernel)
theorem ii_Te : Cond.initialized "LastJars$Teller" ∈ GW := inGW (i := 59) (by decide +kernel) (by decide +kernel)
theorem ii_Sh : Cond.initialized "LastJars$Sheet" ∈ GW := inGW (i := 60) (by decide +kernel) (by decide +kernel)
theorem ii_Mo : Cond.initialized "LastJarsModel" ∈ GW := inGW (i := 61) (by decide +kernel) (by decide +kernel)
theorem ii_Tx : Cond.initialized "LastJars$Text" ∈ GW := inGW (i := 62) (by decide +kernel) (by decide +kernel)
theorem ii_jM : Cond.initialized "java/lang/Math" ∈ GW := inGW (i := 63) (by decide +kernel) (by decide +kernel)
theorem ii_Bl : Cond.initialized "LastJars$Blends" ∈ GW := inGW (i := 64) (by decide +kernel) (by decide +kernel)
theorem ii_jI : Cond.initialized "java/lang/Integer" ∈ GW := inGW (i := 65) (by decide +kernel) (by decide +kernel)
theorem ii_Gu : Cond.initialized "LastJars$Guess" ∈ GW := inGW (i := 66) (by decide +kernel) (by decide +kernel)
theorem ii_jA : Cond.initialized "java/util/Arrays" ∈ GW := inGW (i := 67) (by decide +kernel) (by decide +kernel)
theorem ii_jS : Cond.initialized "java/lang/System" ∈ GW := inGW (i := 68) (by decide +kernel) (by decide +kernel)
theorem cl_La_7 : Cond.classLink "LastJarsLaw" 7 "LastJars" ∈ GW := inGW (i := 69) (by decide +kernel) (by decide +kernel)
theorem cl_LJ_9 : Cond.classLink "LastJars" 9 "LastJars$Shop" ∈ GW := inGW (i := 77) (by decide +kernel) (by decide +kernel)
theorem cl_Sp_9 : Cond.classLink "LastJars$Shop" 9 "LastJars$Jar" ∈ GW := inGW (i := 83) (by decide +kernel) (by decide +kernel)
theorem cl_Sp_17 : Cond.classLink "LastJars$Shop" 17 "LastJars$Decider" ∈ GW := inGW (i := 85) (by decide +kernel) (by decide +kernel)
theorem cl_LJ_18 : Cond.classLink "LastJars" 18 "LastJars$Sales" ∈ GW := inGW (i := 180) (by decide +kernel) (by decide +kernel)
theorem cl_LJ_25 : Cond.classLink "LastJars" 25 "LastJars$Service" ∈ GW := inGW (i := 203) (by decide +kernel) (by decide +kernel)
theorem cl_LJ_32 : Cond.classLink "LastJars" 32 "LastJars$Readings" ∈ GW := inGW (i := 216) (by decide +kernel) (by decide +kernel)
theorem cl_LJ_39 : Cond.classLink "LastJars" 39 "LastJars$Teller" ∈ GW := inGW (i := 236) (by decide +kernel) (by decide +kernel)
theorem cl_LJ_46 : Cond.classLink "LastJars" 46 "LastJars$Sheet" ∈ GW := inGW (i := 247) (by decide +kernel) (by decide +kernel)
theorem kc_jI_265 : Jvm.Cond.constant "java/lang/Integer" 265 1431655765 ∈ GW := inGW (i := 537) (by decide +kernel) (by decide +kernel)
theorem kc_jI_266 : Jvm.Cond.constant "java/lang/Integer" 266 858993459 ∈ GW := inGW (i := 538) (by decide +kernel) (by decide +kernel)
theorem kc_jI_267 : Jvm.Cond.constant "java/lang/Integer" 267 252645135 ∈ GW := inGW (i := 539) (by decide +kernel) (by decide +kernel)
theorem kl_LJ_206 : Jvm.Cond.constantLong "LastJars" 206 (-9223372036854775808) ∈ GW := inGW (i := 649) (by decide +kernel) (by decide +kernel)
theorem cl_La_10 : Cond.classLink "LastJarsLaw" 10 "LastJarsModel" ∈ GW := inGW (i := 753) (by decide +kernel) (by decide +kernel)
theorem kl_Mo_202 : Jvm.Cond.constantLong "LastJarsModel" 202 (3) ∈ GW := inGW (i := 875) (by decide +kernel) (by decide +kernel)
theorem kl_Mo_152 : Jvm.Cond.constantLong "LastJarsModel" 152 (2) ∈ GW := inGW (i := 883) (by decide +kernel) (by decide +kernel)
theorem kl_Mo_118 : Jvm.Cond.constantLong "LastJarsModel" 118 (9) ∈ GW := inGW (i := 911) (by decide +kernel) (by decide +kernel)
theorem kl_Mo_179 : Jvm.Cond.constantLong "LastJarsModel" 179 (99) ∈ GW := inGW (i := 964) (by decide +kernel) (by decide +kernel)
theorem kl_Mo_204 : Jvm.Cond.constantLong "LastJarsModel" 204 (10) ∈ GW := inGW (i := 1011) (by decide +kernel) (by decide +kernel)
theorem kl_Mo_206 : Jvm.Cond.constantLong "LastJarsModel" 206 (15) ∈ GW := inGW (i := 1012) (by decide +kernel) (by decide +kernel)
theorem kl_Mo_208 : Jvm.Cond.constantLong "LastJarsModel" 208 (20) ∈ GW := inGW (i := 1013) (by decide +kernel) (by decide +kernel)
theorem kl_Mo_210 : Jvm.Cond.constantLong "LastJarsModel" 210 (23) ∈ GW := inGW (i := 1014) (by decide +kernel) (by decide +kernel)
theorem kl_Mo_244 : Jvm.Cond.constantLong "LastJarsModel" 244 (-1) ∈ GW := inGW (i := 1063) (by decide +kernel) (by decide +kernel)
theorem kl_Mo_91 : Jvm.Cond.constantLong "LastJarsModel" 91 (-9223372036854775808) ∈ GW := inGW (i := 1107) (by decide +kernel) (by decide +kernel)
def FL (own : String) (idx ci k : Nat) : Prop := ∃ q : vw_C, CL[ci]? = some q ∧ k < q.2.2 ∧ Cond.fieldLink own idx (q.2.1 k).1 (q.2.1 k).2.1 (q.2.1 k).2.2.1 ∈ GW
theorem fl_Ja_9 : FL "LastJars$Jar" 9 1 0 := ⟨_, rfl, by decide, inGW (i := 92) (by decide +kernel) (by decide +kernel)⟩
theorem fl_Tx_57 : FL "LastJars$Text" 57 1 0 := ⟨_, rfl, by decide, inGW (i := 93) (by decide +kernel) (by decide +kernel)⟩
theorem fl_LJ_247 : FL "LastJars" 247 1 0 := ⟨_, rfl, by decide, inGW (i := 94) (by decide +kernel) (by decide +kernel)⟩
theorem fl_Ja_15 : FL "LastJars$Jar" 15 1 1 := ⟨_, rfl, by decide, inGW (i := 95) (by decide +kernel) (by decide +kernel)⟩
theorem fl_Te_17 : FL "LastJars$Teller" 17 1 1 := ⟨_, rfl, by decide, inGW (i := 96) (by decide +kernel) (by decide +kernel)⟩
theorem fl_Tx_62 : FL "LastJars$Text" 62 1 1 := ⟨_, rfl, by decide, inGW (i := 97) (by decide +kernel) (by decide +kernel)⟩
theorem fl_Ja_18 : FL "LastJars$Jar" 18 1 2 := ⟨_, rfl, by decide, inGW (i := 98) (by decide +kernel) (by decide +kernel)⟩
theorem fl_Tx_65 : FL "LastJars$Text" 65 1 2 := ⟨_, rfl, by decide, inGW (i := 99) (by decide +kernel) (by decide +kernel)⟩
theorem fl_Ja_21 : FL "LastJars$Jar" 21 1 3 := ⟨_, rfl, by decide, inGW (i := 100) (by decide +kernel) (by decide +kernel)⟩
theorem fl_Se_52 : FL "LastJars$Service" 52 1 3 := ⟨_, rfl, by decide, inGW (i := 101) (by decide +kernel) (by decide +kernel)⟩
theorem fl_Sa_75 : FL "LastJars$Sales" 75 1 3 := ⟨_, rfl, by decide, inGW (i := 102) (by decide +kernel) (by decide +kernel)⟩
theorem fl_Tx_68 : FL "LastJars$Text" 68 1 3 := ⟨_, rfl, by decide, inGW (i := 103) (by decide +kernel) (by decide +kernel)⟩
theorem fl_Sp_47 : FL "LastJars$Shop" 47 1 3 := ⟨_, rfl, by decide, inGW (i := 104) (by decide +kernel) (by decide +kernel)⟩
theorem fl_LJ_136 : FL "LastJars" 136 1 3 := ⟨_, rfl, by decide, inGW (i := 105) (by decide +kernel) (by decide +kernel)⟩
theorem fl_Ja_24 : FL "LastJars$Jar" 24 1 4 := ⟨_, rfl, by decide, inGW (i := 106) (by decide +kernel) (by decide +kernel)⟩
theorem fl_Se_39 : FL "LastJars$Service" 39 1 4 := ⟨_, rfl, by decide, inGW (i := 107) (by decide +kernel) (by decide +kernel)⟩
theorem fl_Sa_54 : FL "LastJars$Sales" 54 1 4 := ⟨_, rfl, by decide, inGW (i := 108) (by decide +kernel) (by decide +kernel)⟩
theorem fl_Tx_71 : FL "LastJars$Text" 71 1 4 := ⟨_, rfl, by decide, inGW (i := 109) (by decide +kernel) (by decide +kernel)⟩
theorem fl_Sp_44 : FL "LastJars$Shop" 44 1 4 := ⟨_, rfl, by decide, inGW (i := 110) (by decide +kernel) (by decide +kernel)⟩
theorem fl_LJ_139 : FL "LastJars" 139 1 4 := ⟨_, rfl, by decide, inGW (i := 111) (by decide +kernel) (by decide +kernel)⟩
theorem fl_De_9 : FL "LastJars$Decider" 9 0 0 := ⟨_, rfl, by decide, inGW (i := 128) (by decide +kernel) (by decide +kernel)⟩
theorem fl_Bl_51 : FL "LastJars$Blends" 51 0 0 := ⟨_, rfl, by decide, inGW (i := 129) (by decide +kernel) (by decide +kernel)⟩
theorem fl_Tx_74 : FL "LastJars$Text" 74 0 0 := ⟨_, rfl, by decide, inGW (i := 130) (by decide +kernel) (by decide +kernel)⟩
theorem fl_De_15 : FL "LastJars$Decider" 15 0 1 := ⟨_, rfl, by decide, inGW (i := 131) (by decide +kernel) (by decide +kernel)⟩
theorem fl_Bl_48 : FL "LastJars$Blends" 48 0 1 := ⟨_, rfl, by decide, inGW (i := 132) (by decide +kernel) (by decide +kernel)⟩
theorem fl_Tx_79 : FL "LastJars$Text" 79 0 1 := ⟨_, rfl, by decide, inGW (i := 133) (by decide +kernel) (by decide +kernel)⟩
theorem fl_De_18 : FL "LastJars$Decider" 18 0 2 := ⟨_, rfl, by decide, inGW (i := 134) (by decide +kernel) (by decide +kernel)⟩
theorem fl_Bl_31 : FL "LastJars$Blends" 31 0 2 := ⟨_, rfl, by decide, inGW (i := 135) (by decide +kernel) (by decide +kernel)⟩
theorem fl_Se_62 : FL "LastJars$Service" 62 0 2 := ⟨_, rfl, by decide, inGW (i := 136) (by decide +kernel) (by decide +kernel)⟩
theorem fl_Sa_81 : FL "LastJars$Sales" 81 0 2 := ⟨_, rfl, by decide, inGW (i := 137) (by decide +kernel) (by decide +kernel)⟩
theorem fl_Tx_82 : FL "LastJars$Text" 82 0 2 := ⟨_, rfl, by decide, inGW (i := 138) (by decide +kernel) (by decide +kernel)⟩
theorem fl_LJ_142 : FL "LastJars" 142 0 2 := ⟨_, rfl, by decide, inGW (i := 139) (by decide +kernel) (by decide +kernel)⟩
theorem fl_De_21 : FL "LastJars$Decider" 21 0 3 := ⟨_, rfl, by decide, inGW (i := 140) (by decide +kernel) (by decide +kernel)⟩
theorem fl_Tx_85 : FL "LastJars$Text" 85 0 3 := ⟨_, rfl, by decide, inGW (i := 141) (by decide +kernel) (by decide +kernel)⟩
theorem fl_LJ_149 : FL "LastJars" 149 0 3 := ⟨_, rfl, by decide, inGW (i := 142) (by decide +kernel) (by decide +kernel)⟩
theorem fl_Sp_11 : FL "LastJars$Shop" 11 6 0 := ⟨_, rfl, by decide, inGW (i := 152) (by decide +kernel) (by decide +kernel)⟩
theorem fl_Se_48 : FL "LastJars$Service" 48 6 0 := ⟨_, rfl, by decide, inGW (i := 153) (by decide +kernel) (by decide +kernel)⟩
theorem fl_Tx_41 : FL "LastJars$Text" 41 6 0 := ⟨_, rfl, by decide, inGW (i := 154) (by decide +kernel) (by decide +kernel)⟩
theorem fl_Sa_71 : FL "LastJars$Sales" 71 6 0 := ⟨_, rfl, by decide, inGW (i := 155) (by decide +kernel) (by decide +kernel)⟩
theorem fl_Sp_19 : FL "LastJars$Shop" 19 6 1 := ⟨_, rfl, by decide, inGW (i := 156) (by decide +kernel) (by decide +kernel)⟩
theorem fl_Se_55 : FL "LastJars$Service" 55 6 1 := ⟨_, rfl, by decide, inGW (i := 157) (by decide +kernel) (by decide +kernel)⟩
theorem fl_Tx_49 : FL "LastJars$Text" 49 6 1 := ⟨_, rfl, by decide, inGW (i := 158) (by decide +kernel) (by decide +kernel)⟩
theorem fl_Sa_77 : FL "LastJars$Sales" 77 6 1 := ⟨_, rfl, by decide, inGW (i := 159) (by decide +kernel) (by decide +kernel)⟩
theorem fl_Sp_25 : FL "LastJars$Shop" 25 6 2 := ⟨_, rfl, by decide, inGW (i := 160) (by decide +kernel) (by decide +kernel)⟩
theorem fl_Gu_9 : FL "LastJars$Guess" 9 6 2 := ⟨_, rfl, by decide, inGW (i := 161) (by decide +kernel) (by decide +kernel)⟩
theorem fl_LJ_89 : FL "LastJars" 89 6 2 := ⟨_, rfl, by decide, inGW (i := 162) (by decide +kernel) (by decide +kernel)⟩
theorem fl_Tx_32 : FL "LastJars$Text" 32 6 2 := ⟨_, rfl, by decide, inGW (i := 163) (by decide +kernel) (by decide +kernel)⟩
theorem fl_Se_59 : FL "LastJars$Service" 59 6 2 := ⟨_, rfl, by decide, inGW (i := 164) (by decide +kernel) (by decide +kernel)⟩
theorem fl_Sa_95 : FL "LastJars$Sales" 95 6 2 := ⟨_, rfl, by decide, inGW (i := 165) (by decide +kernel) (by decide +kernel)⟩
theorem fl_Se_29 : FL "LastJars$Service" 29 6 3 := ⟨_, rfl, by decide, inGW (i := 166) (by decide +kernel) (by decide +kernel)⟩
theorem fl_Sp_33 : FL "LastJars$Shop" 33 6 3 := ⟨_, rfl, by decide, inGW (i := 167) (by decide +kernel) (by decide +kernel)⟩
theorem fl_Tx_38 : FL "LastJars$Text" 38 6 3 := ⟨_, rfl, by decide, inGW (i := 168) (by decide +kernel) (by decide +kernel)⟩
theorem fl_Sa_98 : FL "LastJars$Sales" 98 6 3 := ⟨_, rfl, by decide, inGW (i := 169) (by decide +kernel) (by decide +kernel)⟩
theorem fl_LJ_270 : FL "LastJars" 270 6 3 := ⟨_, rfl, by decide, inGW (i := 170) (by decide +kernel) (by decide +kernel)⟩
theorem fl_Sa_9 : FL "LastJars$Sales" 9 3 0 := ⟨_, rfl, by decide, inGW (i := 186) (by decide +kernel) (by decide +kernel)⟩
theorem fl_Sa_15 : FL "LastJars$Sales" 15 3 1 := ⟨_, rfl, by decide, inGW (i := 187) (by decide +kernel) (by decide +kernel)⟩
theorem fl_Sa_50 : FL "LastJars$Sales" 50 3 2 := ⟨_, rfl, by decide, inGW (i := 188) (by decide +kernel) (by decide +kernel)⟩
theorem fl_Sa_62 : FL "LastJars$Sales" 62 3 3 := ⟨_, rfl, by decide, inGW (i := 189) (by decide +kernel) (by decide +kernel)⟩
theorem fl_Sa_59 : FL "LastJars$Sales" 59 3 4 := ⟨_, rfl, by decide, inGW (i := 190) (by decide +kernel) (by decide +kernel)⟩
theorem fl_Se_9 : FL "LastJars$Service" 9 4 0 := ⟨_, rfl, by decide, inGW (i := 209) (by decide +kernel) (by decide +kernel)⟩
theorem fl_Se_15 : FL "LastJars$Service" 15 4 1 := ⟨_, rfl, by decide, inGW (i := 210) (by decide +kernel) (by decide +kernel)⟩
theorem fl_Re_9 : FL "LastJars$Readings" 9 2 0 := ⟨_, rfl, by decide, inGW (i := 222) (by decide +kernel) (by decide +kernel)⟩
theorem fl_Re_15 : FL "LastJars$Readings" 15 2 1 := ⟨_, rfl, by decide, inGW (i := 223) (by decide +kernel) (by decide +kernel)⟩
theorem fl_Re_18 : FL "LastJars$Readings" 18 2 2 := ⟨_, rfl, by decide, inGW (i := 224) (by decide +kernel) (by decide +kernel)⟩
theorem fl_Re_21 : FL "LastJars$Readings" 21 2 3 := ⟨_, rfl, by decide, inGW (i := 225) (by decide +kernel) (by decide +kernel)⟩
theorem fl_LJ_86 : FL "LastJars" 86 2 3 := ⟨_, rfl, by decide, inGW (i := 226) (by decide +kernel) (by decide +kernel)⟩
theorem fl_Te_7 : FL "LastJars$Teller" 7 7 0 := ⟨_, rfl, by decide, inGW (i := 242) (by decide +kernel) (by decide +kernel)⟩
theorem fl_LJ_267 : FL "LastJars" 267 7 0 := ⟨_, rfl, by decide, inGW (i := 243) (by decide +kernel) (by decide +kernel)⟩
theorem fl_Sh_9 : FL "LastJars$Sheet" 9 5 0 := ⟨_, rfl, by decide, inGW (i := 254) (by decide +kernel) (by decide +kernel)⟩
theorem fl_LJ_237 : FL "LastJars" 237 5 0 := ⟨_, rfl, by decide, inGW (i := 255) (by decide +kernel) (by decide +kernel)⟩
theorem fl_Sh_15 : FL "LastJars$Sheet" 15 5 1 := ⟨_, rfl, by decide, inGW (i := 256) (by decide +kernel) (by decide +kernel)⟩
theorem fl_LJ_221 : FL "LastJars" 221 5 1 := ⟨_, rfl, by decide, inGW (i := 257) (by decide +kernel) (by decide +kernel)⟩
theorem fl_Sh_19 : FL "LastJars$Sheet" 19 5 2 := ⟨_, rfl, by decide, inGW (i := 258) (by decide +kernel) (by decide +kernel)⟩
theorem fl_LJ_225 : FL "LastJars" 225 5 2 := ⟨_, rfl, by decide, inGW (i := 259) (by decide +kernel) (by decide +kernel)⟩
theorem fl_Sh_23 : FL "LastJars$Sheet" 23 5 3 := ⟨_, rfl, by decide, inGW (i := 260) (by decide +kernel) (by decide +kernel)⟩
theorem fl_LJ_12 : FL "LastJars" 12 8 0 := ⟨_, rfl, by decide, inGW (i := 270) (by decide +kernel) (by decide +kernel)⟩
theorem fl_LJ_21 : FL "LastJars" 21 8 1 := ⟨_, rfl, by decide, inGW (i := 271) (by decide +kernel) (by decide +kernel)⟩
theorem fl_LJ_28 : FL "LastJars" 28 8 2 := ⟨_, rfl, by decide, inGW (i := 272) (by decide +kernel) (by decide +kernel)⟩
theorem fl_LJ_35 : FL "LastJars" 35 8 3 := ⟨_, rfl, by decide, inGW (i := 273) (by decide +kernel) (by decide +kernel)⟩
theorem fl_LJ_42 : FL "LastJars" 42 8 4 := ⟨_, rfl, by decide, inGW (i := 274) (by decide +kernel) (by decide +kernel)⟩
theorem fl_LJ_48 : FL "LastJars" 48 8 5 := ⟨_, rfl, by decide, inGW (i := 275) (by decide +kernel) (by decide +kernel)⟩
theorem fl_LJ_52 : FL "LastJars" 52 8 6 := ⟨_, rfl, by decide, inGW (i := 276) (by decide +kernel) (by decide +kernel)⟩
theorem fl_Mo_93 : FL "LastJarsModel" 93 9 0 := ⟨_, rfl, by decide, inGW (i := 759) (by decide +kernel) (by decide +kernel)⟩
theorem fl_Mo_101 : FL "LastJarsModel" 101 9 1 := ⟨_, rfl, by decide, inGW (i := 760) (by decide +kernel) (by decide +kernel)⟩
theorem fl_Mo_7 : FL "LastJarsModel" 7 9 2 := ⟨_, rfl, by decide, inGW (i := 761) (by decide +kernel) (by decide +kernel)⟩
theorem fl_Mo_13 : FL "LastJarsModel" 13 9 3 := ⟨_, rfl, by decide, inGW (i := 762) (by decide +kernel) (by decide +kernel)⟩
theorem fl_Mo_16 : FL "LastJarsModel" 16 9 4 := ⟨_, rfl, by decide, inGW (i := 763) (by decide +kernel) (by decide +kernel)⟩
theorem fl_Mo_19 : FL "LastJarsModel" 19 9 5 := ⟨_, rfl, by decide, inGW (i := 764) (by decide +kernel) (by decide +kernel)⟩
theorem fl_Mo_22 : FL "LastJarsModel" 22 9 6 := ⟨_, rfl, by decide, inGW (i := 765) (by decide +kernel) (by decide +kernel)⟩
theorem fl_Mo_108 : FL "LastJarsModel" 108 9 7 := ⟨_, rfl, by decide, inGW (i := 766) (by decide +kernel) (by decide +kernel)⟩
theorem fl_Mo_25 : FL "LastJarsModel" 25 9 8 := ⟨_, rfl, by decide, inGW (i := 767) (by decide +kernel) (by decide +kernel)⟩
theorem fl_Mo_28 : FL "LastJarsModel" 28 9 9 := ⟨_, rfl, by decide, inGW (i := 768) (by decide +kernel) (by decide +kernel)⟩
theorem fl_Mo_31 : FL "LastJarsModel" 31 9 10 := ⟨_, rfl, by decide, inGW (i := 769) (by decide +kernel) (by decide +kernel)⟩
theorem fl_Mo_34 : FL "LastJarsModel" 34 9 11 := ⟨_, rfl, by decide, inGW (i := 770) (by decide +kernel) (by decide +kernel)⟩
theorem fl_Mo_111 : FL "LastJarsModel" 111 9 12 := ⟨_, rfl, by decide, inGW (i := 771) (by decide +kernel) (by decide +kernel)⟩
theorem fl_Mo_120 : FL "LastJarsModel" 120 9 13 := ⟨_, rfl, by decide, inGW (i := 772) (by decide +kernel) (by decide +kernel)⟩
theorem fl_Mo_127 : FL "LastJarsModel" 127 9 14 := ⟨_, rfl, by decide, inGW (i := 773) (by decide +kernel) (by decide +kernel)⟩
theorem fl_Mo_37 : FL "LastJarsModel" 37 9 15 := ⟨_, rfl, by decide, inGW (i := 774) (by decide +kernel) (by decide +kernel)⟩
theorem fl_Mo_40 : FL "LastJarsModel" 40 9 16 := ⟨_, rfl, by decide, inGW (i := 775) (by decide +kernel) (by decide +kernel)⟩
theorem fl_Mo_43 : FL "LastJarsModel" 43 9 17 := ⟨_, rfl, by decide, inGW (i := 776) (by decide +kernel) (by decide +kernel)⟩
theorem fl_Mo_46 : FL "LastJarsModel" 46 9 18 := ⟨_, rfl, by decide, inGW (i := 777) (by decide +kernel) (by decide +kernel)⟩
theorem fl_Mo_49 : FL "LastJarsModel" 49 9 19 := ⟨_, rfl, by decide, inGW (i := 778) (by decide +kernel) (by decide +kernel)⟩
theorem fl_Mo_52 : FL "LastJarsModel" 52 9 20 := ⟨_, rfl, by decide, inGW (i := 779) (by decide +kernel) (by decide +kernel)⟩
theorem fl_Mo_55 : FL "LastJarsModel" 55 9 21 := ⟨_, rfl, by decide, inGW (i := 780) (by decide +kernel) (by decide +kernel)⟩
theorem fl_Mo_58 : FL "LastJarsModel" 58 9 22 := ⟨_, rfl, by decide, inGW (i := 781) (by decide +kernel) (by decide +kernel)⟩
theorem fl_Mo_61 : FL "LastJarsModel" 61 9 23 := ⟨_, rfl, by decide, inGW (i := 782) (by decide +kernel) (by decide +kernel)⟩
theorem fl_Mo_64 : FL "LastJarsModel" 64 9 24 := ⟨_, rfl, by decide, inGW (i := 783) (by decide +kernel) (by decide +kernel)⟩
theorem fl_Mo_67 : FL "LastJarsModel" 67 9 25 := ⟨_, rfl, by decide, inGW (i := 784) (by decide +kernel) (by decide +kernel)⟩
theorem fl_Mo_241 : FL "LastJarsModel" 241 9 26 := ⟨_, rfl, by decide, inGW (i := 785) (by decide +kernel) (by decide +kernel)⟩
theorem fl_Mo_161 : FL "LastJarsModel" 161 9 27 := ⟨_, rfl, by decide, inGW (i := 786) (by decide +kernel) (by decide +kernel)⟩
theorem fl_Mo_70 : FL "LastJarsModel" 70 9 28 := ⟨_, rfl, by decide, inGW (i := 787) (by decide +kernel) (by decide +kernel)⟩
theorem fl_Mo_73 : FL "LastJarsModel" 73 9 29 := ⟨_, rfl, by decide, inGW (i := 788) (by decide +kernel) (by decide +kernel)⟩
theorem fl_Mo_76 : FL "LastJarsModel" 76 9 30 := ⟨_, rfl, by decide, inGW (i := 789) (by decide +kernel) (by decide +kernel)⟩
theorem fl_Mo_79 : FL "LastJarsModel" 79 9 31 := ⟨_, rfl, by decide, inGW (i := 790) (by decide +kernel) (by decide +kernel)⟩
theorem fl_Mo_82 : FL "LastJarsModel" 82 9 32 := ⟨_, rfl, by decide, inGW (i := 791) (by decide +kernel) (by decide +kernel)⟩
theorem fl_Mo_85 : FL "LastJarsModel" 85 9 33 := ⟨_, rfl, by decide, inGW (i := 792) (by decide +kernel) (by decide +kernel)⟩
theorem fl_Mo_88 : FL "LastJarsModel" 88 9 34 := ⟨_, rfl, by decide, inGW (i := 793) (by decide +kernel) (by decide +kernel)⟩
theorem fl_Mo_264 : FL "LastJarsModel" 264 9 35 := ⟨_, rfl, by decide, inGW (i := 794) (by decide +kernel) (by decide +kernel)⟩
def YI (y : MethodName) (cc : ByteArray) (maxL : Nat) (ret : Option FieldType) (n : Nat) : Prop := Cond.code y cc maxL ret ∈ GW ∧ Cond.initialized y.cls ∈ GW ∧ (y.cls ≠ "java/lang/invoke/MethodHandle" ∧ y.cls ≠ "java/lang/invoke/VarHandle" ∧ (parseMethodDescriptor y.desc).map (fun d => d.parameters.length) = some n) ∧ plainName y.cls = true
abbrev c_Bl_longest : ByteArray := prog_2_method_2_code
def y_Bl_longest : MethodName := ⟨"LastJars$Blends", "longest", "(LLastJars$Shop;II)I"⟩
theorem k_Bl_longest : YI y_Bl_longest c_Bl_longest 6 (some .int) 3 := ⟨inGW (i := 458) (by decide +kernel) (by decide +kernel), ii_Bl, by decide +kernel, by decide +kernel⟩
theorem ks_Bl_longest : Cond.static y_Bl_longest ∈ GW := inGW (i := 457) (by decide +kernel) (by decide +kernel)
abbrev c_Bl_cheapest : ByteArray := prog_2_method_3_code
def y_Bl_cheapest : MethodName := ⟨"LastJars$Blends", "cheapest", "(LLastJars$Shop;LLastJars$Decider;)I"⟩
theorem k_Bl_cheapest : YI y_Bl_cheapest c_Bl_cheapest 8 (some .int) 2 := ⟨inGW (i := 521) (by decide +kernel) (by decide +kernel), ii_Bl, by decide +kernel, by decide +kernel⟩
theorem ks_Bl_cheapest : Cond.static y_Bl_cheapest ∈ GW := inGW (i := 520) (by decide +kernel) (by decide +kernel)
abbrev c_Bl_decides : ByteArray := prog_2_method_4_code
def y_Bl_decides : MethodName := ⟨"LastJars$Blends", "decides", "(LLastJars$Shop;LLastJars$Decider;I)Z"⟩
theorem k_Bl_decides : YI y_Bl_decides c_Bl_decides 3 (some .boolean) 3 := ⟨inGW (i := 533) (by decide +kernel) (by decide +kernel), ii_Bl, by decide +kernel, by decide +kernel⟩
theorem ks_Bl_decides : Cond.static y_Bl_decides ∈ GW := inGW (i := 532) (by decide +kernel) (by decide +kernel)
abbrev c_Bl_alike : ByteArray := prog_2_method_5_code
def y_Bl_alike : MethodName := ⟨"LastJars$Blends", "alike", "(LLastJars$Shop;I)I"⟩
theorem k_Bl_alike : YI y_Bl_alike c_Bl_alike 5 (some .int) 2 := ⟨inGW (i := 547) (by decide +kernel) (by decide +kernel), ii_Bl, by decide +kernel, by decide +kernel⟩
theorem ks_Bl_alike : Cond.static y_Bl_alike ∈ GW := inGW (i := 546) (by decide +kernel) (by decide +kernel)
abbrev c_Bl_isSameMarked : ByteArray := prog_2_method_6_code
def y_Bl_isSameMarked : MethodName := ⟨"LastJars$Blends", "isSameMarked", "(LLastJars$Shop;II)Z"⟩
theorem k_Bl_isSameMarked : YI y_Bl_isSameMarked c_Bl_isSameMarked 4 (some .boolean) 3 := ⟨inGW (i := 550) (by decide +kernel) (by decide +kernel), ii_Bl, by decide +kernel, by decide +kernel⟩
theorem ks_Bl_isSameMarked : Cond.static y_Bl_isSameMarked ∈ GW := inGW (i := 549) (by decide +kernel) (by decide +kernel)
abbrev c_Bl_howManyStocked : ByteArray := prog_2_method_7_code
def y_Bl_howManyStocked : MethodName := ⟨"LastJars$Blends", "howManyStocked", "(LLastJars$Shop;)I"⟩
theorem k_Bl_howManyStocked : YI y_Bl_howManyStocked c_Bl_howManyStocked 1 (some .int) 1 := ⟨inGW (i := 652) (by decide +kernel) (by decide +kernel), ii_Bl, by decide +kernel, by decide +kernel⟩
theorem ks_Bl_howManyStocked : Cond.static y_Bl_howManyStocked ∈ GW := inGW (i := 651) (by decide +kernel) (by decide +kernel)
abbrev c_Bl_howManyDeciding : ByteArray := prog_2_method_8_code
def y_Bl_howManyDeciding : MethodName := ⟨"LastJars$Blends", "howManyDeciding", "(LLastJars$Shop;LLastJars$Decider;)I"⟩
theorem k_Bl_howManyDeciding : YI y_Bl_howManyDeciding c_Bl_howManyDeciding 5 (some .int) 2 := ⟨inGW (i := 655) (by decide +kernel) (by decide +kernel), ii_Bl, by decide +kernel, by decide +kernel⟩
theorem ks_Bl_howManyDeciding : Cond.static y_Bl_howManyDeciding ∈ GW := inGW (i := 654) (by decide +kernel) (by decide +kernel)
abbrev c_Bl_greatestDivisor : ByteArray := prog_2_method_9_code
def y_Bl_greatestDivisor : MethodName := ⟨"LastJars$Blends", "greatestDivisor", "(II)I"⟩
theorem k_Bl_greatestDivisor : YI y_Bl_greatestDivisor c_Bl_greatestDivisor 3 (some .int) 2 := ⟨inGW (i := 658) (by decide +kernel) (by decide +kernel), ii_Bl, by decide +kernel, by decide +kernel⟩
theorem ks_Bl_greatestDivisor : Cond.static y_Bl_greatestDivisor ∈ GW := inGW (i := 657) (by decide +kernel) (by decide +kernel)
abbrev c_De_init : ByteArray := prog_3_method_1_code
def y_De_init : MethodName := ⟨"LastJars$Decider", "<init>", "()V"⟩
theorem k_De_init : YI y_De_init c_De_init 1 none 0 := ⟨inGW (i := 126) (by decide +kernel) (by decide +kernel), ii_De, by decide +kernel, by decide +kernel⟩
theorem ki_De_init : Cond.instanceMethod y_De_init ∈ GW := inGW (i := 125) (by decide +kernel) (by decide +kernel)
abbrev c_De_part : ByteArray := prog_3_method_2_code
def y_De_part : MethodName := ⟨"LastJars$Decider", "part", "(I)I"⟩
theorem k_De_part : YI y_De_part c_De_part 2 (some .int) 1 := ⟨inGW (i := 389) (by decide +kernel) (by decide +kernel), ii_De, by decide +kernel, by decide +kernel⟩
theorem ki_De_part : Cond.instanceMethod y_De_part ∈ GW := inGW (i := 387) (by decide +kernel) (by decide +kernel)
theorem kv_De_part : Cond.selects "LastJars$Decider" y_De_part y_De_part ∈ GW := inGW (i := 388) (by decide +kernel) (by decide +kernel)
abbrev c_De_become : ByteArray := prog_3_method_3_code
def y_De_become : MethodName := ⟨"LastJars$Decider", "become", "(II)V"⟩
theorem k_De_become : YI y_De_become c_De_become 3 none 2 := ⟨inGW (i := 421) (by decide +kernel) (by decide +kernel), ii_De, by decide +kernel, by decide +kernel⟩
theorem ki_De_become : Cond.instanceMethod y_De_become ∈ GW := inGW (i := 419) (by decide +kernel) (by decide +kernel)
theorem kv_De_become : Cond.selects "LastJars$Decider" y_De_become y_De_become ∈ GW := inGW (i := 420) (by decide +kernel) (by decide +kernel)
abbrev c_De_decidesBy : ByteArray := prog_3_method_4_code
def y_De_decidesBy : MethodName := ⟨"LastJars$Decider", "decidesBy", "(LLastJars$Jar;)Z"⟩
theorem k_De_decidesBy : YI y_De_decidesBy c_De_decidesBy 2 (some .boolean) 1 := ⟨inGW (i := 468) (by decide +kernel) (by decide +kernel), ii_De, by decide +kernel, by decide +kernel⟩
theorem ki_De_decidesBy : Cond.instanceMethod y_De_decidesBy ∈ GW := inGW (i := 466) (by decide +kernel) (by decide +kernel)
theorem kv_De_decidesBy : Cond.selects "LastJars$Decider" y_De_decidesBy y_De_decidesBy ∈ GW := inGW (i := 467) (by decide +kernel) (by decide +kernel)
abbrev c_Gu_jars : ByteArray := prog_4_method_2_code
def y_Gu_jars : MethodName := ⟨"LastJars$Guess", "jars", "(LLastJars$Shop;LLastJars$Sheet;II)I"⟩
theorem k_Gu_jars : YI y_Gu_jars c_Gu_jars 6 (some .int) 4 := ⟨inGW (i := 557) (by decide +kernel) (by decide +kernel), ii_Gu, by decide +kernel, by decide +kernel⟩
theorem ks_Gu_jars : Cond.static y_Gu_jars ∈ GW := inGW (i := 556) (by decide +kernel) (by decide +kernel)
abbrev c_Gu_howManyPairs : ByteArray := prog_4_method_3_code
def y_Gu_howManyPairs : MethodName := ⟨"LastJars$Guess", "howManyPairs", "(LLastJars$Shop;LLastJars$Sheet;II)I"⟩
theorem k_Gu_howManyPairs : YI y_Gu_howManyPairs c_Gu_howManyPairs 6 (some .int) 4 := ⟨inGW (i := 565) (by decide +kernel) (by decide +kernel), ii_Gu, by decide +kernel, by decide +kernel⟩
theorem ks_Gu_howManyPairs : Cond.static y_Gu_howManyPairs ∈ GW := inGW (i := 564) (by decide +kernel) (by decide +kernel)
abbrev c_Gu_leastPair : ByteArray := prog_4_method_4_code
def y_Gu_leastPair : MethodName := ⟨"LastJars$Guess", "leastPair", "(LLastJars$Shop;LLastJars$Sheet;II)I"⟩
theorem k_Gu_leastPair : YI y_Gu_leastPair c_Gu_leastPair 5 (some .int) 4 := ⟨inGW (i := 570) (by decide +kernel) (by decide +kernel), ii_Gu, by decide +kernel, by decide +kernel⟩
theorem ks_Gu_leastPair : Cond.static y_Gu_leastPair ∈ GW := inGW (i := 569) (by decide +kernel) (by decide +kernel)
abbrev c_Gu_hasMarks : ByteArray := prog_4_method_5_code
def y_Gu_hasMarks : MethodName := ⟨"LastJars$Guess", "hasMarks", "(LLastJars$Shop;ILLastJars$Sheet;II)Z"⟩
theorem k_Gu_hasMarks : YI y_Gu_hasMarks c_Gu_hasMarks 6 (some .boolean) 5 := ⟨inGW (i := 560) (by decide +kernel) (by decide +kernel), ii_Gu, by decide +kernel, by decide +kernel⟩
theorem ks_Gu_hasMarks : Cond.static y_Gu_hasMarks ∈ GW := inGW (i := 559) (by decide +kernel) (by decide +kernel)
abbrev c_Ja_init : ByteArray := prog_5_method_1_code
def y_Ja_init : MethodName := ⟨"LastJars$Jar", "<init>", "()V"⟩
theorem k_Ja_init : YI y_Ja_init c_Ja_init 1 none 0 := ⟨inGW (i := 90) (by decide +kernel) (by decide +kernel), ii_Ja, by decide +kernel, by decide +kernel⟩
theorem ki_Ja_init : Cond.instanceMethod y_Ja_init ∈ GW := inGW (i := 89) (by decide +kernel) (by decide +kernel)
abbrev c_Ja_part : ByteArray := prog_5_method_2_code
def y_Ja_part : MethodName := ⟨"LastJars$Jar", "part", "(I)I"⟩
theorem k_Ja_part : YI y_Ja_part c_Ja_part 2 (some .int) 1 := ⟨inGW (i := 358) (by decide +kernel) (by decide +kernel), ii_Ja, by decide +kernel, by decide +kernel⟩
theorem ki_Ja_part : Cond.instanceMethod y_Ja_part ∈ GW := inGW (i := 356) (by decide +kernel) (by decide +kernel)
theorem kv_Ja_part : Cond.selects "LastJars$Jar" y_Ja_part y_Ja_part ∈ GW := inGW (i := 357) (by decide +kernel) (by decide +kernel)
abbrev c_Ja_become : ByteArray := prog_5_method_3_code
def y_Ja_become : MethodName := ⟨"LastJars$Jar", "become", "(II)V"⟩
theorem k_Ja_become : YI y_Ja_become c_Ja_become 3 none 2 := ⟨inGW (i := 401) (by decide +kernel) (by decide +kernel), ii_Ja, by decide +kernel, by decide +kernel⟩
theorem ki_Ja_become : Cond.instanceMethod y_Ja_become ∈ GW := inGW (i := 399) (by decide +kernel) (by decide +kernel)
theorem kv_Ja_become : Cond.selects "LastJars$Jar" y_Ja_become y_Ja_become ∈ GW := inGW (i := 400) (by decide +kernel) (by decide +kernel)
abbrev c_Ja_markIn : ByteArray := prog_5_method_4_code
def y_Ja_markIn : MethodName := ⟨"LastJars$Jar", "markIn", "(I)I"⟩
theorem k_Ja_markIn : YI y_Ja_markIn c_Ja_markIn 2 (some .int) 1 := ⟨inGW (i := 366) (by decide +kernel) (by decide +kernel), ii_Ja, by decide +kernel, by decide +kernel⟩
theorem ki_Ja_markIn : Cond.instanceMethod y_Ja_markIn ∈ GW := inGW (i := 364) (by decide +kernel) (by decide +kernel)
theorem kv_Ja_markIn : Cond.selects "LastJars$Jar" y_Ja_markIn y_Ja_markIn ∈ GW := inGW (i := 365) (by decide +kernel) (by decide +kernel)
abbrev c_Ja_leafMark : ByteArray := prog_5_method_5_code
def y_Ja_leafMark : MethodName := ⟨"LastJars$Jar", "leafMark", "(I)I"⟩
theorem k_Ja_leafMark : YI y_Ja_leafMark c_Ja_leafMark 2 (some .int) 1 := ⟨inGW (i := 370) (by decide +kernel) (by decide +kernel), ii_Ja, by decide +kernel, by decide +kernel⟩
theorem ki_Ja_leafMark : Cond.instanceMethod y_Ja_leafMark ∈ GW := inGW (i := 369) (by decide +kernel) (by decide +kernel)
theorem kv_Ja_leafMark : Cond.selects "LastJars$Jar" y_Ja_leafMark y_Ja_leafMark ∈ GW := inGW (i := 4) (by decide +kernel) (by decide +kernel)
abbrev c_Ja_twistMark : ByteArray := prog_5_method_6_code
def y_Ja_twistMark : MethodName := ⟨"LastJars$Jar", "twistMark", "(I)I"⟩
theorem k_Ja_twistMark : YI y_Ja_twistMark c_Ja_twistMark 2 (some .int) 1 := ⟨inGW (i := 377) (by decide +kernel) (by decide +kernel), ii_Ja, by decide +kernel, by decide +kernel⟩
theorem ki_Ja_twistMark : Cond.instanceMethod y_Ja_twistMark ∈ GW := inGW (i := 376) (by decide +kernel) (by decide +kernel)
theorem kv_Ja_twistMark : Cond.selects "LastJars$Jar" y_Ja_twistMark y_Ja_twistMark ∈ GW := inGW (i := 5) (by decide +kernel) (by decide +kernel)
abbrev c_Ja_greatest : ByteArray := prog_5_method_7_code
def y_Ja_greatest : MethodName := ⟨"LastJars$Jar", "greatest", "()I"⟩
theorem k_Ja_greatest : YI y_Ja_greatest c_Ja_greatest 3 (some .int) 0 := ⟨inGW (i := 362) (by decide +kernel) (by decide +kernel), ii_Ja, by decide +kernel, by decide +kernel⟩
theorem ki_Ja_greatest : Cond.instanceMethod y_Ja_greatest ∈ GW := inGW (i := 361) (by decide +kernel) (by decide +kernel)
theorem kv_Ja_greatest : Cond.selects "LastJars$Jar" y_Ja_greatest y_Ja_greatest ∈ GW := inGW (i := 3) (by decide +kernel) (by decide +kernel)
abbrev c_Re_init : ByteArray := prog_6_method_1_code
def y_Re_init : MethodName := ⟨"LastJars$Readings", "<init>", "()V"⟩
theorem k_Re_init : YI y_Re_init c_Re_init 1 none 0 := ⟨inGW (i := 220) (by decide +kernel) (by decide +kernel), ii_Re, by decide +kernel, by decide +kernel⟩
theorem ki_Re_init : Cond.instanceMethod y_Re_init ∈ GW := inGW (i := 219) (by decide +kernel) (by decide +kernel)
abbrev c_Re_take : ByteArray := prog_6_method_2_code
def y_Re_take : MethodName := ⟨"LastJars$Readings", "take", "(III)I"⟩
theorem k_Re_take : YI y_Re_take c_Re_take 4 (some .int) 3 := ⟨inGW (i := 618) (by decide +kernel) (by decide +kernel), ii_Re, by decide +kernel, by decide +kernel⟩
theorem ki_Re_take : Cond.instanceMethod y_Re_take ∈ GW := inGW (i := 616) (by decide +kernel) (by decide +kernel)
theorem kv_Re_take : Cond.selects "LastJars$Readings" y_Re_take y_Re_take ∈ GW := inGW (i := 617) (by decide +kernel) (by decide +kernel)
abbrev c_Re_areSo : ByteArray := prog_6_method_3_code
def y_Re_areSo : MethodName := ⟨"LastJars$Readings", "areSo", "(LLastJars$Shop;)Z"⟩
theorem k_Re_areSo : YI y_Re_areSo c_Re_areSo 4 (some .boolean) 1 := ⟨inGW (i := 634) (by decide +kernel) (by decide +kernel), ii_Re, by decide +kernel, by decide +kernel⟩
theorem ki_Re_areSo : Cond.instanceMethod y_Re_areSo ∈ GW := inGW (i := 632) (by decide +kernel) (by decide +kernel)
theorem kv_Re_areSo : Cond.selects "LastJars$Readings" y_Re_areSo y_Re_areSo ∈ GW := inGW (i := 633) (by decide +kernel) (by decide +kernel)
abbrev c_Sa_init : ByteArray := prog_7_method_1_code
def y_Sa_init : MethodName := ⟨"LastJars$Sales", "<init>", "()V"⟩
theorem k_Sa_init : YI y_Sa_init c_Sa_init 1 none 0 := ⟨inGW (i := 184) (by decide +kernel) (by decide +kernel), ii_Sa, by decide +kernel, by decide +kernel⟩
theorem ki_Sa_init : Cond.instanceMethod y_Sa_init ∈ GW := inGW (i := 183) (by decide +kernel) (by decide +kernel)
abbrev c_Sa_isTold : ByteArray := prog_7_method_2_code
def y_Sa_isTold : MethodName := ⟨"LastJars$Sales", "isTold", "(I)Z"⟩
theorem k_Sa_isTold : YI y_Sa_isTold c_Sa_isTold 1 (some .boolean) 1 := ⟨inGW (i := 476) (by decide +kernel) (by decide +kernel), ii_Sa, by decide +kernel, by decide +kernel⟩
theorem ks_Sa_isTold : Cond.static y_Sa_isTold ∈ GW := inGW (i := 475) (by decide +kernel) (by decide +kernel)
abbrev c_Sa_areAllThere : ByteArray := prog_7_method_3_code
def y_Sa_areAllThere : MethodName := ⟨"LastJars$Sales", "areAllThere", "(LLastJars$Shop;LLastJars$Sheet;II)Z"⟩
theorem k_Sa_areAllThere : YI y_Sa_areAllThere c_Sa_areAllThere 5 (some .boolean) 4 := ⟨inGW (i := 480) (by decide +kernel) (by decide +kernel), ii_Sa, by decide +kernel, by decide +kernel⟩
theorem ks_Sa_areAllThere : Cond.static y_Sa_areAllThere ∈ GW := inGW (i := 479) (by decide +kernel) (by decide +kernel)
abbrev c_Sa_buyerOf : ByteArray := prog_7_method_4_code
def y_Sa_buyerOf : MethodName := ⟨"LastJars$Sales", "buyerOf", "(LLastJars$Shop;LLastJars$Sheet;II)LLastJars$Decider;"⟩
theorem k_Sa_buyerOf : YI y_Sa_buyerOf c_Sa_buyerOf 4 (some (.object "LastJars$Decider")) 4 := ⟨inGW (i := 483) (by decide +kernel) (by decide +kernel), ii_Sa, by decide +kernel, by decide +kernel⟩
theorem ks_Sa_buyerOf : Cond.static y_Sa_buyerOf ∈ GW := inGW (i := 482) (by decide +kernel) (by decide +kernel)
abbrev c_Sa_jarOf : ByteArray := prog_7_method_5_code
def y_Sa_jarOf : MethodName := ⟨"LastJars$Sales", "jarOf", "(LLastJars$Shop;LLastJars$Sheet;II)LLastJars$Jar;"⟩
theorem k_Sa_jarOf : YI y_Sa_jarOf c_Sa_jarOf 4 (some (.object "LastJars$Jar")) 4 := ⟨inGW (i := 488) (by decide +kernel) (by decide +kernel), ii_Sa, by decide +kernel, by decide +kernel⟩
theorem ks_Sa_jarOf : Cond.static y_Sa_jarOf ∈ GW := inGW (i := 487) (by decide +kernel) (by decide +kernel)
abbrev c_Sa_goThrough : ByteArray := prog_7_method_6_code
def y_Sa_goThrough : MethodName := ⟨"LastJars$Sales", "goThrough", "(LLastJars$Shop;LLastJars$Sheet;II)V"⟩
theorem k_Sa_goThrough : YI y_Sa_goThrough c_Sa_goThrough 10 none 4 := ⟨inGW (i := 493) (by decide +kernel) (by decide +kernel), ii_Sa, by decide +kernel, by decide +kernel⟩
theorem ki_Sa_goThrough : Cond.instanceMethod y_Sa_goThrough ∈ GW := inGW (i := 491) (by decide +kernel) (by decide +kernel)
theorem kv_Sa_goThrough : Cond.selects "LastJars$Sales" y_Sa_goThrough y_Sa_goThrough ∈ GW := inGW (i := 492) (by decide +kernel) (by decide +kernel)
abbrev c_Sa_begin : ByteArray := prog_7_method_7_code
def y_Sa_begin : MethodName := ⟨"LastJars$Sales", "begin", "(LLastJars$Shop;)V"⟩
theorem k_Sa_begin : YI y_Sa_begin c_Sa_begin 3 none 1 := ⟨inGW (i := 497) (by decide +kernel) (by decide +kernel), ii_Sa, by decide +kernel, by decide +kernel⟩
theorem ki_Sa_begin : Cond.instanceMethod y_Sa_begin ∈ GW := inGW (i := 496) (by decide +kernel) (by decide +kernel)
theorem kv_Sa_begin : Cond.selects "LastJars$Sales" y_Sa_begin y_Sa_begin ∈ GW := inGW (i := 8) (by decide +kernel) (by decide +kernel)
abbrev c_Sa_answer : ByteArray := prog_7_method_8_code
def y_Sa_answer : MethodName := ⟨"LastJars$Sales", "answer", "(LLastJars$Shop;I)I"⟩
theorem k_Sa_answer : YI y_Sa_answer c_Sa_answer 3 (some .int) 2 := ⟨inGW (i := 502) (by decide +kernel) (by decide +kernel), ii_Sa, by decide +kernel, by decide +kernel⟩
theorem ki_Sa_answer : Cond.instanceMethod y_Sa_answer ∈ GW := inGW (i := 500) (by decide +kernel) (by decide +kernel)
theorem kv_Sa_answer : Cond.selects "LastJars$Sales" y_Sa_answer y_Sa_answer ∈ GW := inGW (i := 501) (by decide +kernel) (by decide +kernel)
abbrev c_Sa_emptied : ByteArray := prog_7_method_9_code
def y_Sa_emptied : MethodName := ⟨"LastJars$Sales", "emptied", "(LLastJars$Shop;)I"⟩
theorem k_Sa_emptied : YI y_Sa_emptied c_Sa_emptied 4 (some .int) 1 := ⟨inGW (i := 506) (by decide +kernel) (by decide +kernel), ii_Sa, by decide +kernel, by decide +kernel⟩
theorem ki_Sa_emptied : Cond.instanceMethod y_Sa_emptied ∈ GW := inGW (i := 505) (by decide +kernel) (by decide +kernel)
theorem kv_Sa_emptied : Cond.selects "LastJars$Sales" y_Sa_emptied y_Sa_emptied ∈ GW := inGW (i := 9) (by decide +kernel) (by decide +kernel)
abbrev c_Sa_halvesThen : ByteArray := prog_7_method_10_code
def y_Sa_halvesThen : MethodName := ⟨"LastJars$Sales", "halvesThen", "(LLastJars$Shop;I)I"⟩
theorem k_Sa_halvesThen : YI y_Sa_halvesThen c_Sa_halvesThen 3 (some .int) 2 := ⟨inGW (i := 510) (by decide +kernel) (by decide +kernel), ii_Sa, by decide +kernel, by decide +kernel⟩
theorem ki_Sa_halvesThen : Cond.instanceMethod y_Sa_halvesThen ∈ GW := inGW (i := 509) (by decide +kernel) (by decide +kernel)
theorem kv_Sa_halvesThen : Cond.selects "LastJars$Sales" y_Sa_halvesThen y_Sa_halvesThen ∈ GW := inGW (i := 10) (by decide +kernel) (by decide +kernel)
abbrev c_Sa_purseThen : ByteArray := prog_7_method_11_code
def y_Sa_purseThen : MethodName := ⟨"LastJars$Sales", "purseThen", "(LLastJars$Shop;I)I"⟩
theorem k_Sa_purseThen : YI y_Sa_purseThen c_Sa_purseThen 3 (some .int) 2 := ⟨inGW (i := 514) (by decide +kernel) (by decide +kernel), ii_Sa, by decide +kernel, by decide +kernel⟩
theorem ki_Sa_purseThen : Cond.instanceMethod y_Sa_purseThen ∈ GW := inGW (i := 513) (by decide +kernel) (by decide +kernel)
theorem kv_Sa_purseThen : Cond.selects "LastJars$Sales" y_Sa_purseThen y_Sa_purseThen ∈ GW := inGW (i := 11) (by decide +kernel) (by decide +kernel)
abbrev c_Se_init : ByteArray := prog_8_method_1_code
def y_Se_init : MethodName := ⟨"LastJars$Service", "<init>", "()V"⟩
theorem k_Se_init : YI y_Se_init c_Se_init 1 none 0 := ⟨inGW (i := 207) (by decide +kernel) (by decide +kernel), ii_Se, by decide +kernel, by decide +kernel⟩
theorem ki_Se_init : Cond.instanceMethod y_Se_init ∈ GW := inGW (i := 206) (by decide +kernel) (by decide +kernel)
abbrev c_Se_howMany : ByteArray := prog_8_method_2_code
def y_Se_howMany : MethodName := ⟨"LastJars$Service", "howMany", "(LLastJars$Shop;)I"⟩
theorem k_Se_howMany : YI y_Se_howMany c_Se_howMany 2 (some .int) 1 := ⟨inGW (i := 578) (by decide +kernel) (by decide +kernel), ii_Se, by decide +kernel, by decide +kernel⟩
theorem ki_Se_howMany : Cond.instanceMethod y_Se_howMany ∈ GW := inGW (i := 576) (by decide +kernel) (by decide +kernel)
theorem kv_Se_howMany : Cond.selects "LastJars$Service" y_Se_howMany y_Se_howMany ∈ GW := inGW (i := 577) (by decide +kernel) (by decide +kernel)
abbrev c_Se_jarFor : ByteArray := prog_8_method_3_code
def y_Se_jarFor : MethodName := ⟨"LastJars$Service", "jarFor", "(LLastJars$Shop;I)I"⟩
theorem k_Se_jarFor : YI y_Se_jarFor c_Se_jarFor 3 (some .int) 2 := ⟨inGW (i := 592) (by decide +kernel) (by decide +kernel), ii_Se, by decide +kernel, by decide +kernel⟩
theorem ki_Se_jarFor : Cond.instanceMethod y_Se_jarFor ∈ GW := inGW (i := 590) (by decide +kernel) (by decide +kernel)
theorem kv_Se_jarFor : Cond.selects "LastJars$Service" y_Se_jarFor y_Se_jarFor ∈ GW := inGW (i := 591) (by decide +kernel) (by decide +kernel)
abbrev c_Se_dearest : ByteArray := prog_8_method_4_code
def y_Se_dearest : MethodName := ⟨"LastJars$Service", "dearest", "(LLastJars$Shop;LLastJars$Jar;)I"⟩
theorem k_Se_dearest : YI y_Se_dearest c_Se_dearest 7 (some .int) 2 := ⟨inGW (i := 610) (by decide +kernel) (by decide +kernel), ii_Se, by decide +kernel, by decide +kernel⟩
theorem ki_Se_dearest : Cond.instanceMethod y_Se_dearest ∈ GW := inGW (i := 608) (by decide +kernel) (by decide +kernel)
theorem kv_Se_dearest : Cond.selects "LastJars$Service" y_Se_dearest y_Se_dearest ∈ GW := inGW (i := 609) (by decide +kernel) (by decide +kernel)
abbrev c_Se_begin : ByteArray := prog_8_method_5_code
def y_Se_begin : MethodName := ⟨"LastJars$Service", "begin", "(LLastJars$Shop;)V"⟩
theorem k_Se_begin : YI y_Se_begin c_Se_begin 3 none 1 := ⟨inGW (i := 582) (by decide +kernel) (by decide +kernel), ii_Se, by decide +kernel, by decide +kernel⟩
theorem ki_Se_begin : Cond.instanceMethod y_Se_begin ∈ GW := inGW (i := 581) (by decide +kernel) (by decide +kernel)
theorem kv_Se_begin : Cond.selects "LastJars$Service" y_Se_begin y_Se_begin ∈ GW := inGW (i := 12) (by decide +kernel) (by decide +kernel)
abbrev c_Se_most : ByteArray := prog_8_method_6_code
def y_Se_most : MethodName := ⟨"LastJars$Service", "most", "(LLastJars$Shop;[II)I"⟩
theorem k_Se_most : YI y_Se_most c_Se_most 7 (some .int) 3 := ⟨inGW (i := 585) (by decide +kernel) (by decide +kernel), ii_Se, by decide +kernel, by decide +kernel⟩
theorem ks_Se_most : Cond.static y_Se_most ∈ GW := inGW (i := 584) (by decide +kernel) (by decide +kernel)
abbrev c_Se_choose : ByteArray := prog_8_method_7_code
def y_Se_choose : MethodName := ⟨"LastJars$Service", "choose", "(LLastJars$Shop;)V"⟩
theorem k_Se_choose : YI y_Se_choose c_Se_choose 5 none 1 := ⟨inGW (i := 596) (by decide +kernel) (by decide +kernel), ii_Se, by decide +kernel, by decide +kernel⟩
theorem ki_Se_choose : Cond.instanceMethod y_Se_choose ∈ GW := inGW (i := 595) (by decide +kernel) (by decide +kernel)
theorem kv_Se_choose : Cond.selects "LastJars$Service" y_Se_choose y_Se_choose ∈ GW := inGW (i := 13) (by decide +kernel) (by decide +kernel)
abbrev c_Se_firstChoice : ByteArray := prog_8_method_8_code
def y_Se_firstChoice : MethodName := ⟨"LastJars$Service", "firstChoice", "(LLastJars$Shop;II)I"⟩
theorem k_Se_firstChoice : YI y_Se_firstChoice c_Se_firstChoice 8 (some .int) 3 := ⟨inGW (i := 601) (by decide +kernel) (by decide +kernel), ii_Se, by decide +kernel, by decide +kernel⟩
theorem ki_Se_firstChoice : Cond.instanceMethod y_Se_firstChoice ∈ GW := inGW (i := 600) (by decide +kernel) (by decide +kernel)
theorem kv_Se_firstChoice : Cond.selects "LastJars$Service" y_Se_firstChoice y_Se_firstChoice ∈ GW := inGW (i := 14) (by decide +kernel) (by decide +kernel)
abbrev c_Sh_init : ByteArray := prog_9_method_1_code
def y_Sh_init : MethodName := ⟨"LastJars$Sheet", "<init>", "()V"⟩
theorem k_Sh_init : YI y_Sh_init c_Sh_init 1 none 0 := ⟨inGW (i := 252) (by decide +kernel) (by decide +kernel), ii_Sh, by decide +kernel, by decide +kernel⟩
theorem ki_Sh_init : Cond.instanceMethod y_Sh_init ∈ GW := inGW (i := 251) (by decide +kernel) (by decide +kernel)
abbrev c_Sh_begin : ByteArray := prog_9_method_2_code
def y_Sh_begin : MethodName := ⟨"LastJars$Sheet", "begin", "(II)V"⟩
theorem k_Sh_begin : YI y_Sh_begin c_Sh_begin 3 none 2 := ⟨inGW (i := 666) (by decide +kernel) (by decide +kernel), ii_Sh, by decide +kernel, by decide +kernel⟩
theorem ki_Sh_begin : Cond.instanceMethod y_Sh_begin ∈ GW := inGW (i := 664) (by decide +kernel) (by decide +kernel)
theorem kv_Sh_begin : Cond.selects "LastJars$Sheet" y_Sh_begin y_Sh_begin ∈ GW := inGW (i := 665) (by decide +kernel) (by decide +kernel)
abbrev c_Sh_faultOf : ByteArray := prog_9_method_3_code
def y_Sh_faultOf : MethodName := ⟨"LastJars$Sheet", "faultOf", "(III)I"⟩
theorem k_Sh_faultOf : YI y_Sh_faultOf c_Sh_faultOf 4 (some .int) 3 := ⟨inGW (i := 310) (by decide +kernel) (by decide +kernel), ii_Sh, by decide +kernel, by decide +kernel⟩
theorem ki_Sh_faultOf : Cond.instanceMethod y_Sh_faultOf ∈ GW := inGW (i := 308) (by decide +kernel) (by decide +kernel)
theorem kv_Sh_faultOf : Cond.selects "LastJars$Sheet" y_Sh_faultOf y_Sh_faultOf ∈ GW := inGW (i := 309) (by decide +kernel) (by decide +kernel)
abbrev c_Sh_hasCells : ByteArray := prog_9_method_4_code
def y_Sh_hasCells : MethodName := ⟨"LastJars$Sheet", "hasCells", "(II)Z"⟩
theorem k_Sh_hasCells : YI y_Sh_hasCells c_Sh_hasCells 3 (some .boolean) 2 := ⟨inGW (i := 314) (by decide +kernel) (by decide +kernel), ii_Sh, by decide +kernel, by decide +kernel⟩
theorem ki_Sh_hasCells : Cond.instanceMethod y_Sh_hasCells ∈ GW := inGW (i := 312) (by decide +kernel) (by decide +kernel)
theorem kv_Sh_hasCells : Cond.selects "LastJars$Sheet" y_Sh_hasCells y_Sh_hasCells ∈ GW := inGW (i := 313) (by decide +kernel) (by decide +kernel)
abbrev c_Sh_at : ByteArray := prog_9_method_5_code
def y_Sh_at : MethodName := ⟨"LastJars$Sheet", "at", "(I)I"⟩
theorem k_Sh_at : YI y_Sh_at c_Sh_at 2 (some .int) 1 := ⟨inGW (i := 325) (by decide +kernel) (by decide +kernel), ii_Sh, by decide +kernel, by decide +kernel⟩
theorem ki_Sh_at : Cond.instanceMethod y_Sh_at ∈ GW := inGW (i := 323) (by decide +kernel) (by decide +kernel)
theorem kv_Sh_at : Cond.selects "LastJars$Sheet" y_Sh_at y_Sh_at ∈ GW := inGW (i := 324) (by decide +kernel) (by decide +kernel)
abbrev c_Sh_change : ByteArray := prog_9_method_6_code
def y_Sh_change : MethodName := ⟨"LastJars$Sheet", "change", "(II)V"⟩
theorem k_Sh_change : YI y_Sh_change c_Sh_change 3 none 2 := ⟨inGW (i := 681) (by decide +kernel) (by decide +kernel), ii_Sh, by decide +kernel, by decide +kernel⟩
theorem ki_Sh_change : Cond.instanceMethod y_Sh_change ∈ GW := inGW (i := 679) (by decide +kernel) (by decide +kernel)
theorem kv_Sh_change : Cond.selects "LastJars$Sheet" y_Sh_change y_Sh_change ∈ GW := inGW (i := 680) (by decide +kernel) (by decide +kernel)
abbrev c_Sh_cut : ByteArray := prog_9_method_7_code
def y_Sh_cut : MethodName := ⟨"LastJars$Sheet", "cut", "(I)I"⟩
theorem k_Sh_cut : YI y_Sh_cut c_Sh_cut 2 (some .int) 1 := ⟨inGW (i := 685) (by decide +kernel) (by decide +kernel), ii_Sh, by decide +kernel, by decide +kernel⟩
theorem ki_Sh_cut : Cond.instanceMethod y_Sh_cut ∈ GW := inGW (i := 684) (by decide +kernel) (by decide +kernel)
theorem kv_Sh_cut : Cond.selects "LastJars$Sheet" y_Sh_cut y_Sh_cut ∈ GW := inGW (i := 16) (by decide +kernel) (by decide +kernel)
abbrev c_Sp_init : ByteArray := prog_10_method_1_code
def y_Sp_init : MethodName := ⟨"LastJars$Shop", "<init>", "()V"⟩
theorem k_Sp_init : YI y_Sp_init c_Sp_init 2 none 0 := ⟨inGW (i := 81) (by decide +kernel) (by decide +kernel), ii_Sp, by decide +kernel, by decide +kernel⟩
theorem ki_Sp_init : Cond.instanceMethod y_Sp_init ∈ GW := inGW (i := 80) (by decide +kernel) (by decide +kernel)
abbrev c_Sp_isMissing : ByteArray := prog_10_method_2_code
def y_Sp_isMissing : MethodName := ⟨"LastJars$Shop", "isMissing", "()Z"⟩
theorem k_Sp_isMissing : YI y_Sp_isMissing c_Sp_isMissing 1 (some .boolean) 0 := ⟨inGW (i := 438) (by decide +kernel) (by decide +kernel), ii_Sp, by decide +kernel, by decide +kernel⟩
theorem ki_Sp_isMissing : Cond.instanceMethod y_Sp_isMissing ∈ GW := inGW (i := 436) (by decide +kernel) (by decide +kernel)
theorem kv_Sp_isMissing : Cond.selects "LastJars$Shop" y_Sp_isMissing y_Sp_isMissing ∈ GW := inGW (i := 437) (by decide +kernel) (by decide +kernel)
abbrev c_Sp_jarAt : ByteArray := prog_10_method_3_code
def y_Sp_jarAt : MethodName := ⟨"LastJars$Shop", "jarAt", "(I)LLastJars$Jar;"⟩
theorem k_Sp_jarAt : YI y_Sp_jarAt c_Sp_jarAt 2 (some (.object "LastJars$Jar")) 1 := ⟨inGW (i := 353) (by decide +kernel) (by decide +kernel), ii_Sp, by decide +kernel, by decide +kernel⟩
theorem ki_Sp_jarAt : Cond.instanceMethod y_Sp_jarAt ∈ GW := inGW (i := 351) (by decide +kernel) (by decide +kernel)
theorem kv_Sp_jarAt : Cond.selects "LastJars$Shop" y_Sp_jarAt y_Sp_jarAt ∈ GW := inGW (i := 352) (by decide +kernel) (by decide +kernel)
abbrev c_Sp_deciderAt : ByteArray := prog_10_method_4_code
def y_Sp_deciderAt : MethodName := ⟨"LastJars$Shop", "deciderAt", "(I)LLastJars$Decider;"⟩
theorem k_Sp_deciderAt : YI y_Sp_deciderAt c_Sp_deciderAt 2 (some (.object "LastJars$Decider")) 1 := ⟨inGW (i := 385) (by decide +kernel) (by decide +kernel), ii_Sp, by decide +kernel, by decide +kernel⟩
theorem ki_Sp_deciderAt : Cond.instanceMethod y_Sp_deciderAt ∈ GW := inGW (i := 383) (by decide +kernel) (by decide +kernel)
theorem kv_Sp_deciderAt : Cond.selects "LastJars$Shop" y_Sp_deciderAt y_Sp_deciderAt ∈ GW := inGW (i := 384) (by decide +kernel) (by decide +kernel)
abbrev c_Sp_setsEnd : ByteArray := prog_10_method_5_code
def y_Sp_setsEnd : MethodName := ⟨"LastJars$Shop", "setsEnd", "()I"⟩
theorem k_Sp_setsEnd : YI y_Sp_setsEnd c_Sp_setsEnd 1 (some .int) 0 := ⟨inGW (i := 446) (by decide +kernel) (by decide +kernel), ii_Sp, by decide +kernel, by decide +kernel⟩
theorem ki_Sp_setsEnd : Cond.instanceMethod y_Sp_setsEnd ∈ GW := inGW (i := 444) (by decide +kernel) (by decide +kernel)
theorem kv_Sp_setsEnd : Cond.selects "LastJars$Shop" y_Sp_setsEnd y_Sp_setsEnd ∈ GW := inGW (i := 445) (by decide +kernel) (by decide +kernel)
abbrev c_Sp_isBlend : ByteArray := prog_10_method_6_code
def y_Sp_isBlend : MethodName := ⟨"LastJars$Shop", "isBlend", "(I)Z"⟩
theorem k_Sp_isBlend : YI y_Sp_isBlend c_Sp_isBlend 2 (some .boolean) 1 := ⟨inGW (i := 442) (by decide +kernel) (by decide +kernel), ii_Sp, by decide +kernel, by decide +kernel⟩
theorem ki_Sp_isBlend : Cond.instanceMethod y_Sp_isBlend ∈ GW := inGW (i := 440) (by decide +kernel) (by decide +kernel)
theorem kv_Sp_isBlend : Cond.selects "LastJars$Shop" y_Sp_isBlend y_Sp_isBlend ∈ GW := inGW (i := 441) (by decide +kernel) (by decide +kernel)
abbrev c_Sp_markOf : ByteArray := prog_10_method_7_code
def y_Sp_markOf : MethodName := ⟨"LastJars$Shop", "markOf", "(II)I"⟩
theorem k_Sp_markOf : YI y_Sp_markOf c_Sp_markOf 6 (some .int) 2 := ⟨inGW (i := 450) (by decide +kernel) (by decide +kernel), ii_Sp, by decide +kernel, by decide +kernel⟩
theorem ki_Sp_markOf : Cond.instanceMethod y_Sp_markOf ∈ GW := inGW (i := 448) (by decide +kernel) (by decide +kernel)
theorem kv_Sp_markOf : Cond.selects "LastJars$Shop" y_Sp_markOf y_Sp_markOf ∈ GW := inGW (i := 449) (by decide +kernel) (by decide +kernel)
abbrev c_Sp_penceOf : ByteArray := prog_10_method_8_code
def y_Sp_penceOf : MethodName := ⟨"LastJars$Shop", "penceOf", "(I)I"⟩
theorem k_Sp_penceOf : YI y_Sp_penceOf c_Sp_penceOf 4 (some .int) 1 := ⟨inGW (i := 530) (by decide +kernel) (by decide +kernel), ii_Sp, by decide +kernel, by decide +kernel⟩
theorem ki_Sp_penceOf : Cond.instanceMethod y_Sp_penceOf ∈ GW := inGW (i := 528) (by decide +kernel) (by decide +kernel)
theorem kv_Sp_penceOf : Cond.selects "LastJars$Shop" y_Sp_penceOf y_Sp_penceOf ∈ GW := inGW (i := 529) (by decide +kernel) (by decide +kernel)
abbrev c_Sp_stocked : ByteArray := prog_10_method_9_code
def y_Sp_stocked : MethodName := ⟨"LastJars$Shop", "stocked", "()I"⟩
theorem k_Sp_stocked : YI y_Sp_stocked c_Sp_stocked 3 (some .int) 0 := ⟨inGW (i := 525) (by decide +kernel) (by decide +kernel), ii_Sp, by decide +kernel, by decide +kernel⟩
theorem ki_Sp_stocked : Cond.instanceMethod y_Sp_stocked ∈ GW := inGW (i := 523) (by decide +kernel) (by decide +kernel)
theorem kv_Sp_stocked : Cond.selects "LastJars$Shop" y_Sp_stocked y_Sp_stocked ∈ GW := inGW (i := 524) (by decide +kernel) (by decide +kernel)
abbrev c_Sp_allHalves : ByteArray := prog_10_method_10_code
def y_Sp_allHalves : MethodName := ⟨"LastJars$Shop", "allHalves", "()I"⟩
theorem k_Sp_allHalves : YI y_Sp_allHalves c_Sp_allHalves 3 (some .int) 0 := ⟨inGW (i := 752) (by decide +kernel) (by decide +kernel), ii_Sp, by decide +kernel, by decide +kernel⟩
theorem ki_Sp_allHalves : Cond.instanceMethod y_Sp_allHalves ∈ GW := inGW (i := 750) (by decide +kernel) (by decide +kernel)
theorem kv_Sp_allHalves : Cond.selects "LastJars$Shop" y_Sp_allHalves y_Sp_allHalves ∈ GW := inGW (i := 751) (by decide +kernel) (by decide +kernel)
abbrev c_Te_init : ByteArray := prog_11_method_1_code
def y_Te_init : MethodName := ⟨"LastJars$Teller", "<init>", "()V"⟩
theorem k_Te_init : YI y_Te_init c_Te_init 1 none 0 := ⟨inGW (i := 240) (by decide +kernel) (by decide +kernel), ii_Te, by decide +kernel, by decide +kernel⟩
theorem ki_Te_init : Cond.instanceMethod y_Te_init ∈ GW := inGW (i := 239) (by decide +kernel) (by decide +kernel)
abbrev c_Te_leave : ByteArray := prog_11_method_2_code
def y_Te_leave : MethodName := ⟨"LastJars$Teller", "leave", "(I)V"⟩
theorem k_Te_leave : YI y_Te_leave c_Te_leave 2 none 1 := ⟨inGW (i := 710) (by decide +kernel) (by decide +kernel), ii_Te, by decide +kernel, by decide +kernel⟩
theorem ki_Te_leave : Cond.instanceMethod y_Te_leave ∈ GW := inGW (i := 709) (by decide +kernel) (by decide +kernel)
theorem kv_Te_leave : Cond.selects "LastJars$Teller" y_Te_leave y_Te_leave ∈ GW := inGW (i := 17) (by decide +kernel) (by decide +kernel)
abbrev c_Te_tellLeaf : ByteArray := prog_11_method_3_code
def y_Te_tellLeaf : MethodName := ⟨"LastJars$Teller", "tellLeaf", "(LLastJars$Jar;)I"⟩
theorem k_Te_tellLeaf : YI y_Te_tellLeaf c_Te_tellLeaf 2 (some .int) 1 := ⟨inGW (i := 706) (by decide +kernel) (by decide +kernel), ii_Te, by decide +kernel, by decide +kernel⟩
theorem ki_Te_tellLeaf : Cond.instanceMethod y_Te_tellLeaf ∈ GW := inGW (i := 704) (by decide +kernel) (by decide +kernel)
theorem kv_Te_tellLeaf : Cond.selects "LastJars$Teller" y_Te_tellLeaf y_Te_tellLeaf ∈ GW := inGW (i := 705) (by decide +kernel) (by decide +kernel)
abbrev c_Te_tellTwist : ByteArray := prog_11_method_4_code
def y_Te_tellTwist : MethodName := ⟨"LastJars$Teller", "tellTwist", "(LLastJars$Jar;)I"⟩
theorem k_Te_tellTwist : YI y_Te_tellTwist c_Te_tellTwist 2 (some .int) 1 := ⟨inGW (i := 714) (by decide +kernel) (by decide +kernel), ii_Te, by decide +kernel, by decide +kernel⟩
theorem ki_Te_tellTwist : Cond.instanceMethod y_Te_tellTwist ∈ GW := inGW (i := 712) (by decide +kernel) (by decide +kernel)
theorem kv_Te_tellTwist : Cond.selects "LastJars$Teller" y_Te_tellTwist y_Te_tellTwist ∈ GW := inGW (i := 713) (by decide +kernel) (by decide +kernel)
abbrev c_Te_tellPlug : ByteArray := prog_11_method_5_code
def y_Te_tellPlug : MethodName := ⟨"LastJars$Teller", "tellPlug", "(LLastJars$Jar;)I"⟩
theorem k_Te_tellPlug : YI y_Te_tellPlug c_Te_tellPlug 3 (some .int) 1 := ⟨inGW (i := 719) (by decide +kernel) (by decide +kernel), ii_Te, by decide +kernel, by decide +kernel⟩
theorem ki_Te_tellPlug : Cond.instanceMethod y_Te_tellPlug ∈ GW := inGW (i := 717) (by decide +kernel) (by decide +kernel)
theorem kv_Te_tellPlug : Cond.selects "LastJars$Teller" y_Te_tellPlug y_Te_tellPlug ∈ GW := inGW (i := 718) (by decide +kernel) (by decide +kernel)
abbrev c_Te_sniffLent : ByteArray := prog_11_method_6_code
def y_Te_sniffLent : MethodName := ⟨"LastJars$Teller", "sniffLent", "(I)I"⟩
theorem k_Te_sniffLent : YI y_Te_sniffLent c_Te_sniffLent 2 (some .int) 1 := ⟨inGW (i := 732) (by decide +kernel) (by decide +kernel), ii_Te, by decide +kernel, by decide +kernel⟩
theorem ki_Te_sniffLent : Cond.instanceMethod y_Te_sniffLent ∈ GW := inGW (i := 730) (by decide +kernel) (by decide +kernel)
theorem kv_Te_sniffLent : Cond.selects "LastJars$Teller" y_Te_sniffLent y_Te_sniffLent ∈ GW := inGW (i := 731) (by decide +kernel) (by decide +kernel)
abbrev c_Te_sniffPlug : ByteArray := prog_11_method_7_code
def y_Te_sniffPlug : MethodName := ⟨"LastJars$Teller", "sniffPlug", "()I"⟩
theorem k_Te_sniffPlug : YI y_Te_sniffPlug c_Te_sniffPlug 1 (some .int) 0 := ⟨inGW (i := 728) (by decide +kernel) (by decide +kernel), ii_Te, by decide +kernel, by decide +kernel⟩
theorem ki_Te_sniffPlug : Cond.instanceMethod y_Te_sniffPlug ∈ GW := inGW (i := 726) (by decide +kernel) (by decide +kernel)
theorem kv_Te_sniffPlug : Cond.selects "LastJars$Teller" y_Te_sniffPlug y_Te_sniffPlug ∈ GW := inGW (i := 727) (by decide +kernel) (by decide +kernel)
abbrev c_Tx_firstFault : ByteArray := prog_12_method_2_code
def y_Tx_firstFault : MethodName := ⟨"LastJars$Text", "firstFault", "(LLastJars$Sheet;II)I"⟩
theorem k_Tx_firstFault : YI y_Tx_firstFault c_Tx_firstFault 7 (some .int) 3 := ⟨inGW (i := 321) (by decide +kernel) (by decide +kernel), ii_Tx, by decide +kernel, by decide +kernel⟩
theorem ks_Tx_firstFault : Cond.static y_Tx_firstFault ∈ GW := inGW (i := 320) (by decide +kernel) (by decide +kernel)
abbrev c_Tx_startsWith : ByteArray := prog_12_method_3_code
def y_Tx_startsWith : MethodName := ⟨"LastJars$Text", "startsWith", "(LLastJars$Sheet;IIIC)Z"⟩
theorem k_Tx_startsWith : YI y_Tx_startsWith c_Tx_startsWith 5 (some .boolean) 5 := ⟨inGW (i := 329) (by decide +kernel) (by decide +kernel), ii_Tx, by decide +kernel, by decide +kernel⟩
theorem ks_Tx_startsWith : Cond.static y_Tx_startsWith ∈ GW := inGW (i := 328) (by decide +kernel) (by decide +kernel)
abbrev c_Tx_fitting : ByteArray := prog_12_method_4_code
def y_Tx_fitting : MethodName := ⟨"LastJars$Text", "fitting", "(LLastJars$Sheet;IIII)I"⟩
theorem k_Tx_fitting : YI y_Tx_fitting c_Tx_fitting 6 (some .int) 5 := ⟨inGW (i := 332) (by decide +kernel) (by decide +kernel), ii_Tx, by decide +kernel, by decide +kernel⟩
theorem ks_Tx_fitting : Cond.static y_Tx_fitting ∈ GW := inGW (i := 331) (by decide +kernel) (by decide +kernel)
abbrev c_Tx_kindOf : ByteArray := prog_12_method_5_code
def y_Tx_kindOf : MethodName := ⟨"LastJars$Text", "kindOf", "(I)I"⟩
theorem k_Tx_kindOf : YI y_Tx_kindOf c_Tx_kindOf 1 (some .int) 1 := ⟨inGW (i := 335) (by decide +kernel) (by decide +kernel), ii_Tx, by decide +kernel, by decide +kernel⟩
theorem ks_Tx_kindOf : Cond.static y_Tx_kindOf ∈ GW := inGW (i := 334) (by decide +kernel) (by decide +kernel)
abbrev c_Tx_fill : ByteArray := prog_12_method_6_code
def y_Tx_fill : MethodName := ⟨"LastJars$Text", "fill", "(LLastJars$Sheet;IILLastJars$Shop;)V"⟩
theorem k_Tx_fill : YI y_Tx_fill c_Tx_fill 5 none 4 := ⟨inGW (i := 339) (by decide +kernel) (by decide +kernel), ii_Tx, by decide +kernel, by decide +kernel⟩
theorem ks_Tx_fill : Cond.static y_Tx_fill ∈ GW := inGW (i := 338) (by decide +kernel) (by decide +kernel)
abbrev c_Tx_fillJar : ByteArray := prog_12_method_7_code
def y_Tx_fillJar : MethodName := ⟨"LastJars$Text", "fillJar", "(LLastJars$Sheet;ILLastJars$Jar;)V"⟩
theorem k_Tx_fillJar : YI y_Tx_fillJar c_Tx_fillJar 3 none 3 := ⟨inGW (i := 342) (by decide +kernel) (by decide +kernel), ii_Tx, by decide +kernel, by decide +kernel⟩
theorem ks_Tx_fillJar : Cond.static y_Tx_fillJar ∈ GW := inGW (i := 341) (by decide +kernel) (by decide +kernel)
abbrev c_Tx_fillDecider : ByteArray := prog_12_method_8_code
def y_Tx_fillDecider : MethodName := ⟨"LastJars$Text", "fillDecider", "(LLastJars$Sheet;ILLastJars$Decider;)V"⟩
theorem k_Tx_fillDecider : YI y_Tx_fillDecider c_Tx_fillDecider 3 none 3 := ⟨inGW (i := 345) (by decide +kernel) (by decide +kernel), ii_Tx, by decide +kernel, by decide +kernel⟩
theorem ks_Tx_fillDecider : Cond.static y_Tx_fillDecider ∈ GW := inGW (i := 344) (by decide +kernel) (by decide +kernel)
abbrev c_LJ_init : ByteArray := prog_1_method_1_code
def y_LJ_init : MethodName := ⟨"LastJars", "<init>", "()V"⟩
theorem k_LJ_init : YI y_LJ_init c_LJ_init 2 none 0 := ⟨inGW (i := 73) (by decide +kernel) (by decide +kernel), ii_LJ, by decide +kernel, by decide +kernel⟩
theorem ki_LJ_init : Cond.instanceMethod y_LJ_init ∈ GW := inGW (i := 72) (by decide +kernel) (by decide +kernel)
abbrev c_LJ_store : ByteArray := prog_1_method_2_code
def y_LJ_store : MethodName := ⟨"LastJars", "store", "(IIII)I"⟩
theorem k_LJ_store : YI y_LJ_store c_LJ_store 8 (some .int) 4 := ⟨inGW (i := 295) (by decide +kernel) (by decide +kernel), ii_LJ, by decide +kernel, by decide +kernel⟩
theorem ki_LJ_store : Cond.instanceMethod y_LJ_store ∈ GW := inGW (i := 293) (by decide +kernel) (by decide +kernel)
theorem kv_LJ_store : Cond.selects "LastJars" y_LJ_store y_LJ_store ∈ GW := inGW (i := 294) (by decide +kernel) (by decide +kernel)
abbrev c_LJ_ofJar : ByteArray := prog_1_method_3_code
def y_LJ_ofJar : MethodName := ⟨"LastJars", "ofJar", "(II)I"⟩
theorem k_LJ_ofJar : YI y_LJ_ofJar c_LJ_ofJar 4 (some .int) 2 := ⟨inGW (i := 349) (by decide +kernel) (by decide +kernel), ii_LJ, by decide +kernel, by decide +kernel⟩
theorem ki_LJ_ofJar : Cond.instanceMethod y_LJ_ofJar ∈ GW := inGW (i := 347) (by decide +kernel) (by decide +kernel)
theorem kv_LJ_ofJar : Cond.selects "LastJars" y_LJ_ofJar y_LJ_ofJar ∈ GW := inGW (i := 348) (by decide +kernel) (by decide +kernel)
abbrev c_LJ_ofDecider : ByteArray := prog_1_method_4_code
def y_LJ_ofDecider : MethodName := ⟨"LastJars", "ofDecider", "(II)I"⟩
theorem k_LJ_ofDecider : YI y_LJ_ofDecider c_LJ_ofDecider 4 (some .int) 2 := ⟨inGW (i := 381) (by decide +kernel) (by decide +kernel), ii_LJ, by decide +kernel, by decide +kernel⟩
theorem ki_LJ_ofDecider : Cond.instanceMethod y_LJ_ofDecider ∈ GW := inGW (i := 379) (by decide +kernel) (by decide +kernel)
theorem kv_LJ_ofDecider : Cond.selects "LastJars" y_LJ_ofDecider y_LJ_ofDecider ∈ GW := inGW (i := 380) (by decide +kernel) (by decide +kernel)
abbrev c_LJ_cure : ByteArray := prog_1_method_5_code
def y_LJ_cure : MethodName := ⟨"LastJars", "cure", "(II)I"⟩
theorem k_LJ_cure : YI y_LJ_cure c_LJ_cure 3 (some .int) 2 := ⟨inGW (i := 393) (by decide +kernel) (by decide +kernel), ii_LJ, by decide +kernel, by decide +kernel⟩
theorem ki_LJ_cure : Cond.instanceMethod y_LJ_cure ∈ GW := inGW (i := 391) (by decide +kernel) (by decide +kernel)
theorem kv_LJ_cure : Cond.selects "LastJars" y_LJ_cure y_LJ_cure ∈ GW := inGW (i := 392) (by decide +kernel) (by decide +kernel)
abbrev c_LJ_fetch : ByteArray := prog_1_method_6_code
def y_LJ_fetch : MethodName := ⟨"LastJars", "fetch", "(II)I"⟩
theorem k_LJ_fetch : YI y_LJ_fetch c_LJ_fetch 3 (some .int) 2 := ⟨inGW (i := 405) (by decide +kernel) (by decide +kernel), ii_LJ, by decide +kernel, by decide +kernel⟩
theorem ki_LJ_fetch : Cond.instanceMethod y_LJ_fetch ∈ GW := inGW (i := 403) (by decide +kernel) (by decide +kernel)
theorem kv_LJ_fetch : Cond.selects "LastJars" y_LJ_fetch y_LJ_fetch ∈ GW := inGW (i := 404) (by decide +kernel) (by decide +kernel)
abbrev c_LJ_price : ByteArray := prog_1_method_7_code
def y_LJ_price : MethodName := ⟨"LastJars", "price", "(II)I"⟩
theorem k_LJ_price : YI y_LJ_price c_LJ_price 3 (some .int) 2 := ⟨inGW (i := 409) (by decide +kernel) (by decide +kernel), ii_LJ, by decide +kernel, by decide +kernel⟩
theorem ki_LJ_price : Cond.instanceMethod y_LJ_price ∈ GW := inGW (i := 407) (by decide +kernel) (by decide +kernel)
theorem kv_LJ_price : Cond.selects "LastJars" y_LJ_price y_LJ_price ∈ GW := inGW (i := 408) (by decide +kernel) (by decide +kernel)
abbrev c_LJ_dread : ByteArray := prog_1_method_8_code
def y_LJ_dread : MethodName := ⟨"LastJars", "dread", "(II)I"⟩
theorem k_LJ_dread : YI y_LJ_dread c_LJ_dread 3 (some .int) 2 := ⟨inGW (i := 413) (by decide +kernel) (by decide +kernel), ii_LJ, by decide +kernel, by decide +kernel⟩
theorem ki_LJ_dread : Cond.instanceMethod y_LJ_dread ∈ GW := inGW (i := 411) (by decide +kernel) (by decide +kernel)
theorem kv_LJ_dread : Cond.selects "LastJars" y_LJ_dread y_LJ_dread ∈ GW := inGW (i := 412) (by decide +kernel) (by decide +kernel)
abbrev c_LJ_pay : ByteArray := prog_1_method_9_code
def y_LJ_pay : MethodName := ⟨"LastJars", "pay", "(II)I"⟩
theorem k_LJ_pay : YI y_LJ_pay c_LJ_pay 3 (some .int) 2 := ⟨inGW (i := 425) (by decide +kernel) (by decide +kernel), ii_LJ, by decide +kernel, by decide +kernel⟩
theorem ki_LJ_pay : Cond.instanceMethod y_LJ_pay ∈ GW := inGW (i := 423) (by decide +kernel) (by decide +kernel)
theorem kv_LJ_pay : Cond.selects "LastJars" y_LJ_pay y_LJ_pay ∈ GW := inGW (i := 424) (by decide +kernel) (by decide +kernel)
abbrev c_LJ_mark : ByteArray := prog_1_method_10_code
def y_LJ_mark : MethodName := ⟨"LastJars", "mark", "(II)I"⟩
theorem k_LJ_mark : YI y_LJ_mark c_LJ_mark 4 (some .int) 2 := ⟨inGW (i := 429) (by decide +kernel) (by decide +kernel), ii_LJ, by decide +kernel, by decide +kernel⟩
theorem ki_LJ_mark : Cond.instanceMethod y_LJ_mark ∈ GW := inGW (i := 427) (by decide +kernel) (by decide +kernel)
theorem kv_LJ_mark : Cond.selects "LastJars" y_LJ_mark y_LJ_mark ∈ GW := inGW (i := 428) (by decide +kernel) (by decide +kernel)
abbrev c_LJ_blend : ByteArray := prog_1_method_11_code
def y_LJ_blend : MethodName := ⟨"LastJars", "blend", "(II)I"⟩
theorem k_LJ_blend : YI y_LJ_blend c_LJ_blend 3 (some .int) 2 := ⟨inGW (i := 434) (by decide +kernel) (by decide +kernel), ii_LJ, by decide +kernel, by decide +kernel⟩
theorem ki_LJ_blend : Cond.instanceMethod y_LJ_blend ∈ GW := inGW (i := 432) (by decide +kernel) (by decide +kernel)
theorem kv_LJ_blend : Cond.selects "LastJars" y_LJ_blend y_LJ_blend ∈ GW := inGW (i := 433) (by decide +kernel) (by decide +kernel)
abbrev c_LJ_hold : ByteArray := prog_1_method_12_code
def y_LJ_hold : MethodName := ⟨"LastJars", "hold", "(II)I"⟩
theorem k_LJ_hold : YI y_LJ_hold c_LJ_hold 3 (some .int) 2 := ⟨inGW (i := 455) (by decide +kernel) (by decide +kernel), ii_LJ, by decide +kernel, by decide +kernel⟩
theorem ki_LJ_hold : Cond.instanceMethod y_LJ_hold ∈ GW := inGW (i := 453) (by decide +kernel) (by decide +kernel)
theorem kv_LJ_hold : Cond.selects "LastJars" y_LJ_hold y_LJ_hold ∈ GW := inGW (i := 454) (by decide +kernel) (by decide +kernel)
abbrev c_LJ_sell : ByteArray := prog_1_method_13_code
def y_LJ_sell : MethodName := ⟨"LastJars", "sell", "(II)I"⟩
theorem k_LJ_sell : YI y_LJ_sell c_LJ_sell 5 (some .int) 2 := ⟨inGW (i := 464) (by decide +kernel) (by decide +kernel), ii_LJ, by decide +kernel, by decide +kernel⟩
theorem ki_LJ_sell : Cond.instanceMethod y_LJ_sell ∈ GW := inGW (i := 462) (by decide +kernel) (by decide +kernel)
theorem kv_LJ_sell : Cond.selects "LastJars" y_LJ_sell y_LJ_sell ∈ GW := inGW (i := 463) (by decide +kernel) (by decide +kernel)
abbrev c_LJ_year : ByteArray := prog_1_method_14_code
def y_LJ_year : MethodName := ⟨"LastJars", "year", "(IIIII)I"⟩
theorem k_LJ_year : YI y_LJ_year c_LJ_year 8 (some .int) 5 := ⟨inGW (i := 473) (by decide +kernel) (by decide +kernel), ii_LJ, by decide +kernel, by decide +kernel⟩
theorem ki_LJ_year : Cond.instanceMethod y_LJ_year ∈ GW := inGW (i := 471) (by decide +kernel) (by decide +kernel)
theorem kv_LJ_year : Cond.selects "LastJars" y_LJ_year y_LJ_year ∈ GW := inGW (i := 472) (by decide +kernel) (by decide +kernel)
abbrev c_LJ_mix : ByteArray := prog_1_method_15_code
def y_LJ_mix : MethodName := ⟨"LastJars", "mix", "(II)I"⟩
theorem k_LJ_mix : YI y_LJ_mix c_LJ_mix 5 (some .int) 2 := ⟨inGW (i := 518) (by decide +kernel) (by decide +kernel), ii_LJ, by decide +kernel, by decide +kernel⟩
theorem ki_LJ_mix : Cond.instanceMethod y_LJ_mix ∈ GW := inGW (i := 516) (by decide +kernel) (by decide +kernel)
theorem kv_LJ_mix : Cond.selects "LastJars" y_LJ_mix y_LJ_mix ∈ GW := inGW (i := 517) (by decide +kernel) (by decide +kernel)
abbrev c_LJ_like : ByteArray := prog_1_method_16_code
def y_LJ_like : MethodName := ⟨"LastJars", "like", "(I)I"⟩
theorem k_LJ_like : YI y_LJ_like c_LJ_like 2 (some .int) 1 := ⟨inGW (i := 544) (by decide +kernel) (by decide +kernel), ii_LJ, by decide +kernel, by decide +kernel⟩
theorem ki_LJ_like : Cond.instanceMethod y_LJ_like ∈ GW := inGW (i := 542) (by decide +kernel) (by decide +kernel)
theorem kv_LJ_like : Cond.selects "LastJars" y_LJ_like y_LJ_like ∈ GW := inGW (i := 543) (by decide +kernel) (by decide +kernel)
abbrev c_LJ_guess : ByteArray := prog_1_method_17_code
def y_LJ_guess : MethodName := ⟨"LastJars", "guess", "(IIIII)I"⟩
theorem k_LJ_guess : YI y_LJ_guess c_LJ_guess 8 (some .int) 5 := ⟨inGW (i := 554) (by decide +kernel) (by decide +kernel), ii_LJ, by decide +kernel, by decide +kernel⟩
theorem ki_LJ_guess : Cond.instanceMethod y_LJ_guess ∈ GW := inGW (i := 552) (by decide +kernel) (by decide +kernel)
theorem kv_LJ_guess : Cond.selects "LastJars" y_LJ_guess y_LJ_guess ∈ GW := inGW (i := 553) (by decide +kernel) (by decide +kernel)
abbrev c_LJ_serve : ByteArray := prog_1_method_18_code
def y_LJ_serve : MethodName := ⟨"LastJars", "serve", "(I)I"⟩
theorem k_LJ_serve : YI y_LJ_serve c_LJ_serve 2 (some .int) 1 := ⟨inGW (i := 574) (by decide +kernel) (by decide +kernel), ii_LJ, by decide +kernel, by decide +kernel⟩
theorem ki_LJ_serve : Cond.instanceMethod y_LJ_serve ∈ GW := inGW (i := 572) (by decide +kernel) (by decide +kernel)
theorem kv_LJ_serve : Cond.selects "LastJars" y_LJ_serve y_LJ_serve ∈ GW := inGW (i := 573) (by decide +kernel) (by decide +kernel)
abbrev c_LJ_dear : ByteArray := prog_1_method_19_code
def y_LJ_dear : MethodName := ⟨"LastJars", "dear", "(I)I"⟩
theorem k_LJ_dear : YI y_LJ_dear c_LJ_dear 3 (some .int) 1 := ⟨inGW (i := 606) (by decide +kernel) (by decide +kernel), ii_LJ, by decide +kernel, by decide +kernel⟩
theorem ki_LJ_dear : Cond.instanceMethod y_LJ_dear ∈ GW := inGW (i := 604) (by decide +kernel) (by decide +kernel)
theorem kv_LJ_dear : Cond.selects "LastJars" y_LJ_dear y_LJ_dear ∈ GW := inGW (i := 605) (by decide +kernel) (by decide +kernel)
abbrev c_LJ_reading : ByteArray := prog_1_method_20_code
def y_LJ_reading : MethodName := ⟨"LastJars", "reading", "(III)I"⟩
theorem k_LJ_reading : YI y_LJ_reading c_LJ_reading 4 (some .int) 3 := ⟨inGW (i := 614) (by decide +kernel) (by decide +kernel), ii_LJ, by decide +kernel, by decide +kernel⟩
theorem ki_LJ_reading : Cond.instanceMethod y_LJ_reading ∈ GW := inGW (i := 612) (by decide +kernel) (by decide +kernel)
theorem kv_LJ_reading : Cond.selects "LastJars" y_LJ_reading y_LJ_reading ∈ GW := inGW (i := 613) (by decide +kernel) (by decide +kernel)
abbrev c_LJ_back : ByteArray := prog_1_method_21_code
def y_LJ_back : MethodName := ⟨"LastJars", "back", "(I)I"⟩
theorem k_LJ_back : YI y_LJ_back c_LJ_back 2 (some .int) 1 := ⟨inGW (i := 622) (by decide +kernel) (by decide +kernel), ii_LJ, by decide +kernel, by decide +kernel⟩
theorem ki_LJ_back : Cond.instanceMethod y_LJ_back ∈ GW := inGW (i := 620) (by decide +kernel) (by decide +kernel)
theorem kv_LJ_back : Cond.selects "LastJars" y_LJ_back y_LJ_back ∈ GW := inGW (i := 621) (by decide +kernel) (by decide +kernel)
abbrev c_LJ_sures : ByteArray := prog_1_method_22_code
def y_LJ_sures : MethodName := ⟨"LastJars", "sures", "(I)I"⟩
theorem k_LJ_sures : YI y_LJ_sures c_LJ_sures 2 (some .int) 1 := ⟨inGW (i := 626) (by decide +kernel) (by decide +kernel), ii_LJ, by decide +kernel, by decide +kernel⟩
theorem ki_LJ_sures : Cond.instanceMethod y_LJ_sures ∈ GW := inGW (i := 624) (by decide +kernel) (by decide +kernel)
theorem kv_LJ_sures : Cond.selects "LastJars" y_LJ_sures y_LJ_sures ∈ GW := inGW (i := 625) (by decide +kernel) (by decide +kernel)
abbrev c_LJ_fades : ByteArray := prog_1_method_23_code
def y_LJ_fades : MethodName := ⟨"LastJars", "fades", "(I)I"⟩
theorem k_LJ_fades : YI y_LJ_fades c_LJ_fades 2 (some .int) 1 := ⟨inGW (i := 640) (by decide +kernel) (by decide +kernel), ii_LJ, by decide +kernel, by decide +kernel⟩
theorem ki_LJ_fades : Cond.instanceMethod y_LJ_fades ∈ GW := inGW (i := 638) (by decide +kernel) (by decide +kernel)
theorem kv_LJ_fades : Cond.selects "LastJars" y_LJ_fades y_LJ_fades ∈ GW := inGW (i := 639) (by decide +kernel) (by decide +kernel)
abbrev c_LJ_kinds : ByteArray := prog_1_method_24_code
def y_LJ_kinds : MethodName := ⟨"LastJars", "kinds", "(I)I"⟩
theorem k_LJ_kinds : YI y_LJ_kinds c_LJ_kinds 2 (some .int) 1 := ⟨inGW (i := 644) (by decide +kernel) (by decide +kernel), ii_LJ, by decide +kernel, by decide +kernel⟩
theorem ki_LJ_kinds : Cond.instanceMethod y_LJ_kinds ∈ GW := inGW (i := 642) (by decide +kernel) (by decide +kernel)
theorem kv_LJ_kinds : Cond.selects "LastJars" y_LJ_kinds y_LJ_kinds ∈ GW := inGW (i := 643) (by decide +kernel) (by decide +kernel)
abbrev c_LJ_odds : ByteArray := prog_1_method_25_code
def y_LJ_odds : MethodName := ⟨"LastJars", "odds", "(II)J"⟩
theorem k_LJ_odds : YI y_LJ_odds c_LJ_odds 7 (some .long) 2 := ⟨inGW (i := 648) (by decide +kernel) (by decide +kernel), ii_LJ, by decide +kernel, by decide +kernel⟩
theorem ki_LJ_odds : Cond.instanceMethod y_LJ_odds ∈ GW := inGW (i := 646) (by decide +kernel) (by decide +kernel)
theorem kv_LJ_odds : Cond.selects "LastJars" y_LJ_odds y_LJ_odds ∈ GW := inGW (i := 647) (by decide +kernel) (by decide +kernel)
abbrev c_LJ_sheet : ByteArray := prog_1_method_26_code
def y_LJ_sheet : MethodName := ⟨"LastJars", "sheet", "(III)I"⟩
theorem k_LJ_sheet : YI y_LJ_sheet c_LJ_sheet 5 (some .int) 3 := ⟨inGW (i := 662) (by decide +kernel) (by decide +kernel), ii_LJ, by decide +kernel, by decide +kernel⟩
theorem ki_LJ_sheet : Cond.instanceMethod y_LJ_sheet ∈ GW := inGW (i := 660) (by decide +kernel) (by decide +kernel)
theorem kv_LJ_sheet : Cond.selects "LastJars" y_LJ_sheet y_LJ_sheet ∈ GW := inGW (i := 661) (by decide +kernel) (by decide +kernel)
abbrev c_LJ_lose : ByteArray := prog_1_method_27_code
def y_LJ_lose : MethodName := ⟨"LastJars", "lose", "(I)I"⟩
theorem k_LJ_lose : YI y_LJ_lose c_LJ_lose 4 (some .int) 1 := ⟨inGW (i := 673) (by decide +kernel) (by decide +kernel), ii_LJ, by decide +kernel, by decide +kernel⟩
theorem ki_LJ_lose : Cond.instanceMethod y_LJ_lose ∈ GW := inGW (i := 671) (by decide +kernel) (by decide +kernel)
theorem kv_LJ_lose : Cond.selects "LastJars" y_LJ_lose y_LJ_lose ∈ GW := inGW (i := 672) (by decide +kernel) (by decide +kernel)
abbrev c_LJ_put : ByteArray := prog_1_method_28_code
def y_LJ_put : MethodName := ⟨"LastJars", "put", "(III)I"⟩
theorem k_LJ_put : YI y_LJ_put c_LJ_put 6 (some .int) 3 := ⟨inGW (i := 677) (by decide +kernel) (by decide +kernel), ii_LJ, by decide +kernel, by decide +kernel⟩
theorem ki_LJ_put : Cond.instanceMethod y_LJ_put ∈ GW := inGW (i := 675) (by decide +kernel) (by decide +kernel)
theorem kv_LJ_put : Cond.selects "LastJars" y_LJ_put y_LJ_put ∈ GW := inGW (i := 676) (by decide +kernel) (by decide +kernel)
abbrev c_LJ_cell : ByteArray := prog_1_method_29_code
def y_LJ_cell : MethodName := ⟨"LastJars", "cell", "(III)J"⟩
theorem k_LJ_cell : YI y_LJ_cell c_LJ_cell 5 (some .long) 3 := ⟨inGW (i := 689) (by decide +kernel) (by decide +kernel), ii_LJ, by decide +kernel, by decide +kernel⟩
theorem ki_LJ_cell : Cond.instanceMethod y_LJ_cell ∈ GW := inGW (i := 687) (by decide +kernel) (by decide +kernel)
theorem kv_LJ_cell : Cond.selects "LastJars" y_LJ_cell y_LJ_cell ∈ GW := inGW (i := 688) (by decide +kernel) (by decide +kernel)
abbrev c_LJ_copy : ByteArray := prog_1_method_30_code
def y_LJ_copy : MethodName := ⟨"LastJars", "copy", "(IIIII)I"⟩
theorem k_LJ_copy : YI y_LJ_copy c_LJ_copy 8 (some .int) 5 := ⟨inGW (i := 694) (by decide +kernel) (by decide +kernel), ii_LJ, by decide +kernel, by decide +kernel⟩
theorem ki_LJ_copy : Cond.instanceMethod y_LJ_copy ∈ GW := inGW (i := 692) (by decide +kernel) (by decide +kernel)
theorem kv_LJ_copy : Cond.selects "LastJars" y_LJ_copy y_LJ_copy ∈ GW := inGW (i := 693) (by decide +kernel) (by decide +kernel)
abbrev c_LJ_tell : ByteArray := prog_1_method_31_code
def y_LJ_tell : MethodName := ⟨"LastJars", "tell", "(I)I"⟩
theorem k_LJ_tell : YI y_LJ_tell c_LJ_tell 3 (some .int) 1 := ⟨inGW (i := 702) (by decide +kernel) (by decide +kernel), ii_LJ, by decide +kernel, by decide +kernel⟩
theorem ki_LJ_tell : Cond.instanceMethod y_LJ_tell ∈ GW := inGW (i := 700) (by decide +kernel) (by decide +kernel)
theorem kv_LJ_tell : Cond.selects "LastJars" y_LJ_tell y_LJ_tell ∈ GW := inGW (i := 701) (by decide +kernel) (by decide +kernel)
abbrev c_LJ_sniff : ByteArray := prog_1_method_32_code
def y_LJ_sniff : MethodName := ⟨"LastJars", "sniff", "(I)I"⟩
theorem k_LJ_sniff : YI y_LJ_sniff c_LJ_sniff 3 (some .int) 1 := ⟨inGW (i := 724) (by decide +kernel) (by decide +kernel), ii_LJ, by decide +kernel, by decide +kernel⟩
theorem ki_LJ_sniff : Cond.instanceMethod y_LJ_sniff ∈ GW := inGW (i := 722) (by decide +kernel) (by decide +kernel)
theorem kv_LJ_sniff : Cond.selects "LastJars" y_LJ_sniff y_LJ_sniff ∈ GW := inGW (i := 723) (by decide +kernel) (by decide +kernel)
abbrev c_LJ_as : ByteArray := prog_1_method_33_code
def y_LJ_as : MethodName := ⟨"LastJars", "as", "(II)I"⟩
theorem k_LJ_as : YI y_LJ_as c_LJ_as 4 (some .int) 2 := ⟨inGW (i := 736) (by decide +kernel) (by decide +kernel), ii_LJ, by decide +kernel, by decide +kernel⟩
theorem ki_LJ_as : Cond.instanceMethod y_LJ_as ∈ GW := inGW (i := 734) (by decide +kernel) (by decide +kernel)
theorem kv_LJ_as : Cond.selects "LastJars" y_LJ_as y_LJ_as ∈ GW := inGW (i := 735) (by decide +kernel) (by decide +kernel)
abbrev c_LJ_trace : ByteArray := prog_1_method_34_code
def y_LJ_trace : MethodName := ⟨"LastJars", "trace", "()I"⟩
theorem k_LJ_trace : YI y_LJ_trace c_LJ_trace 1 (some .int) 0 := ⟨inGW (i := 740) (by decide +kernel) (by decide +kernel), ii_LJ, by decide +kernel, by decide +kernel⟩
theorem ki_LJ_trace : Cond.instanceMethod y_LJ_trace ∈ GW := inGW (i := 738) (by decide +kernel) (by decide +kernel)
theorem kv_LJ_trace : Cond.selects "LastJars" y_LJ_trace y_LJ_trace ∈ GW := inGW (i := 739) (by decide +kernel) (by decide +kernel)
abbrev c_LJ_fault : ByteArray := prog_1_method_35_code
def y_LJ_fault : MethodName := ⟨"LastJars", "fault", "()I"⟩
theorem k_LJ_fault : YI y_LJ_fault c_LJ_fault 1 (some .int) 0 := ⟨inGW (i := 744) (by decide +kernel) (by decide +kernel), ii_LJ, by decide +kernel, by decide +kernel⟩
theorem ki_LJ_fault : Cond.instanceMethod y_LJ_fault ∈ GW := inGW (i := 742) (by decide +kernel) (by decide +kernel)
theorem kv_LJ_fault : Cond.selects "LastJars" y_LJ_fault y_LJ_fault ∈ GW := inGW (i := 743) (by decide +kernel) (by decide +kernel)
abbrev c_LJ_many : ByteArray := prog_1_method_36_code
def y_LJ_many : MethodName := ⟨"LastJars", "many", "(I)I"⟩
theorem k_LJ_many : YI y_LJ_many c_LJ_many 2 (some .int) 1 := ⟨inGW (i := 748) (by decide +kernel) (by decide +kernel), ii_LJ, by decide +kernel, by decide +kernel⟩
theorem ki_LJ_many : Cond.instanceMethod y_LJ_many ∈ GW := inGW (i := 746) (by decide +kernel) (by decide +kernel)
theorem kv_LJ_many : Cond.selects "LastJars" y_LJ_many y_LJ_many ∈ GW := inGW (i := 747) (by decide +kernel) (by decide +kernel)
abbrev c_LJ_sheetAt : ByteArray := prog_1_method_37_code
def y_LJ_sheetAt : MethodName := ⟨"LastJars", "sheetAt", "(I)LLastJars$Sheet;"⟩
theorem k_LJ_sheetAt : YI y_LJ_sheetAt c_LJ_sheetAt 2 (some (.object "LastJars$Sheet")) 1 := ⟨inGW (i := 299) (by decide +kernel) (by decide +kernel), ii_LJ, by decide +kernel, by decide +kernel⟩
theorem ki_LJ_sheetAt : Cond.instanceMethod y_LJ_sheetAt ∈ GW := inGW (i := 298) (by decide +kernel) (by decide +kernel)
theorem kv_LJ_sheetAt : Cond.selects "LastJars" y_LJ_sheetAt y_LJ_sheetAt ∈ GW := inGW (i := 0) (by decide +kernel) (by decide +kernel)
abbrev c_LJ_changeJar : ByteArray := prog_1_method_38_code
def y_LJ_changeJar : MethodName := ⟨"LastJars", "changeJar", "(III)I"⟩
theorem k_LJ_changeJar : YI y_LJ_changeJar c_LJ_changeJar 6 (some .int) 3 := ⟨inGW (i := 397) (by decide +kernel) (by decide +kernel), ii_LJ, by decide +kernel, by decide +kernel⟩
theorem ki_LJ_changeJar : Cond.instanceMethod y_LJ_changeJar ∈ GW := inGW (i := 396) (by decide +kernel) (by decide +kernel)
theorem kv_LJ_changeJar : Cond.selects "LastJars" y_LJ_changeJar y_LJ_changeJar ∈ GW := inGW (i := 6) (by decide +kernel) (by decide +kernel)
abbrev c_LJ_changeDecider : ByteArray := prog_1_method_39_code
def y_LJ_changeDecider : MethodName := ⟨"LastJars", "changeDecider", "(IIII)I"⟩
theorem k_LJ_changeDecider : YI y_LJ_changeDecider c_LJ_changeDecider 7 (some .int) 4 := ⟨inGW (i := 417) (by decide +kernel) (by decide +kernel), ii_LJ, by decide +kernel, by decide +kernel⟩
theorem ki_LJ_changeDecider : Cond.instanceMethod y_LJ_changeDecider ∈ GW := inGW (i := 416) (by decide +kernel) (by decide +kernel)
theorem kv_LJ_changeDecider : Cond.selects "LastJars" y_LJ_changeDecider y_LJ_changeDecider ∈ GW := inGW (i := 7) (by decide +kernel) (by decide +kernel)
abbrev c_LJ_possible : ByteArray := prog_1_method_40_code
def y_LJ_possible : MethodName := ⟨"LastJars", "possible", "(III)I"⟩
theorem k_LJ_possible : YI y_LJ_possible c_LJ_possible 8 (some .int) 3 := ⟨inGW (i := 630) (by decide +kernel) (by decide +kernel), ii_LJ, by decide +kernel, by decide +kernel⟩
theorem ki_LJ_possible : Cond.instanceMethod y_LJ_possible ∈ GW := inGW (i := 629) (by decide +kernel) (by decide +kernel)
theorem kv_LJ_possible : Cond.selects "LastJars" y_LJ_possible y_LJ_possible ∈ GW := inGW (i := 15) (by decide +kernel) (by decide +kernel)
abbrev c_LJ_refused : ByteArray := prog_1_method_41_code
def y_LJ_refused : MethodName := ⟨"LastJars", "refused", "(I)I"⟩
theorem k_LJ_refused : YI y_LJ_refused c_LJ_refused 2 (some .int) 1 := ⟨inGW (i := 306) (by decide +kernel) (by decide +kernel), ii_LJ, by decide +kernel, by decide +kernel⟩
theorem ki_LJ_refused : Cond.instanceMethod y_LJ_refused ∈ GW := inGW (i := 305) (by decide +kernel) (by decide +kernel)
theorem kv_LJ_refused : Cond.selects "LastJars" y_LJ_refused y_LJ_refused ∈ GW := inGW (i := 1) (by decide +kernel) (by decide +kernel)
abbrev c_LJ_failed : ByteArray := prog_1_method_42_code
def y_LJ_failed : MethodName := ⟨"LastJars", "failed", "(I)I"⟩
theorem k_LJ_failed : YI y_LJ_failed c_LJ_failed 2 (some .int) 1 := ⟨inGW (i := 318) (by decide +kernel) (by decide +kernel), ii_LJ, by decide +kernel, by decide +kernel⟩
theorem ki_LJ_failed : Cond.instanceMethod y_LJ_failed ∈ GW := inGW (i := 317) (by decide +kernel) (by decide +kernel)
theorem kv_LJ_failed : Cond.selects "LastJars" y_LJ_failed y_LJ_failed ∈ GW := inGW (i := 2) (by decide +kernel) (by decide +kernel)
abbrev c_LJ_isBelow : ByteArray := prog_1_method_43_code
def y_LJ_isBelow : MethodName := ⟨"LastJars", "isBelow", "(II)Z"⟩
theorem k_LJ_isBelow : YI y_LJ_isBelow c_LJ_isBelow 2 (some .boolean) 2 := ⟨inGW (i := 302) (by decide +kernel) (by decide +kernel), ii_LJ, by decide +kernel, by decide +kernel⟩
theorem ks_LJ_isBelow : Cond.static y_LJ_isBelow ∈ GW := inGW (i := 301) (by decide +kernel) (by decide +kernel)
abbrev c_Mo_init : ByteArray := prog_14_method_1_code
def y_Mo_init : MethodName := ⟨"LastJarsModel", "<init>", "()V"⟩
theorem k_Mo_init : YI y_Mo_init c_Mo_init 2 none 0 := ⟨inGW (i := 757) (by decide +kernel) (by decide +kernel), ii_Mo, by decide +kernel, by decide +kernel⟩
theorem ki_Mo_init : Cond.instanceMethod y_Mo_init ∈ GW := inGW (i := 756) (by decide +kernel) (by decide +kernel)
abbrev c_Mo_in : ByteArray := prog_14_method_2_code
def y_Mo_in : MethodName := ⟨"LastJarsModel", "in", "(JJJ)Z"⟩
theorem k_Mo_in : YI y_Mo_in c_Mo_in 6 (some .boolean) 3 := ⟨inGW (i := 878) (by decide +kernel) (by decide +kernel), ii_Mo, by decide +kernel, by decide +kernel⟩
theorem ks_Mo_in : Cond.static y_Mo_in ∈ GW := inGW (i := 877) (by decide +kernel) (by decide +kernel)
abbrev c_Mo_lost : ByteArray := prog_14_method_3_code
def y_Mo_lost : MethodName := ⟨"LastJarsModel", "lost", "()J"⟩
theorem k_Mo_lost : YI y_Mo_lost c_Mo_lost 0 (some .long) 0 := ⟨inGW (i := 1106) (by decide +kernel) (by decide +kernel), ii_Mo, by decide +kernel, by decide +kernel⟩
theorem ks_Mo_lost : Cond.static y_Mo_lost ∈ GW := inGW (i := 1105) (by decide +kernel) (by decide +kernel)
abbrev c_Mo_isIn : ByteArray := prog_14_method_4_code
def y_Mo_isIn : MethodName := ⟨"LastJarsModel", "isIn", "(II)Z"⟩
theorem k_Mo_isIn : YI y_Mo_isIn c_Mo_isIn 2 (some .boolean) 2 := ⟨inGW (i := 983) (by decide +kernel) (by decide +kernel), ii_Mo, by decide +kernel, by decide +kernel⟩
theorem ks_Mo_isIn : Cond.static y_Mo_isIn ∈ GW := inGW (i := 982) (by decide +kernel) (by decide +kernel)
abbrev c_Mo_bits : ByteArray := prog_14_method_5_code
def y_Mo_bits : MethodName := ⟨"LastJarsModel", "bits", "(I)I"⟩
theorem k_Mo_bits : YI y_Mo_bits c_Mo_bits 3 (some .int) 1 := ⟨inGW (i := 986) (by decide +kernel) (by decide +kernel), ii_Mo, by decide +kernel, by decide +kernel⟩
theorem ks_Mo_bits : Cond.static y_Mo_bits ∈ GW := inGW (i := 985) (by decide +kernel) (by decide +kernel)
abbrev c_Mo_share : ByteArray := prog_14_method_6_code
def y_Mo_share : MethodName := ⟨"LastJarsModel", "share", "(JJI)J"⟩
theorem k_Mo_share : YI y_Mo_share c_Mo_share 11 (some .long) 3 := ⟨inGW (i := 1110) (by decide +kernel) (by decide +kernel), ii_Mo, by decide +kernel, by decide +kernel⟩
theorem ks_Mo_share : Cond.static y_Mo_share ∈ GW := inGW (i := 1109) (by decide +kernel) (by decide +kernel)
abbrev c_Mo_refused : ByteArray := prog_14_method_7_code
def y_Mo_refused : MethodName := ⟨"LastJarsModel", "refused", "(I)I"⟩
theorem k_Mo_refused : YI y_Mo_refused c_Mo_refused 2 (some .int) 1 := ⟨inGW (i := 882) (by decide +kernel) (by decide +kernel), ii_Mo, by decide +kernel, by decide +kernel⟩
theorem ki_Mo_refused : Cond.instanceMethod y_Mo_refused ∈ GW := inGW (i := 881) (by decide +kernel) (by decide +kernel)
theorem kv_Mo_refused : Cond.selects "LastJarsModel" y_Mo_refused y_Mo_refused ∈ GW := inGW (i := 18) (by decide +kernel) (by decide +kernel)
abbrev c_Mo_failed : ByteArray := prog_14_method_8_code
def y_Mo_failed : MethodName := ⟨"LastJarsModel", "failed", "(I)I"⟩
theorem k_Mo_failed : YI y_Mo_failed c_Mo_failed 2 (some .int) 1 := ⟨inGW (i := 891) (by decide +kernel) (by decide +kernel), ii_Mo, by decide +kernel, by decide +kernel⟩
theorem ki_Mo_failed : Cond.instanceMethod y_Mo_failed ∈ GW := inGW (i := 890) (by decide +kernel) (by decide +kernel)
theorem kv_Mo_failed : Cond.selects "LastJarsModel" y_Mo_failed y_Mo_failed ∈ GW := inGW (i := 20) (by decide +kernel) (by decide +kernel)
abbrev c_Mo_failedLong : ByteArray := prog_14_method_9_code
def y_Mo_failedLong : MethodName := ⟨"LastJarsModel", "failedLong", "(I)J"⟩
theorem k_Mo_failedLong : YI y_Mo_failedLong c_Mo_failedLong 2 (some .long) 1 := ⟨inGW (i := 1134) (by decide +kernel) (by decide +kernel), ii_Mo, by decide +kernel, by decide +kernel⟩
theorem ki_Mo_failedLong : Cond.instanceMethod y_Mo_failedLong ∈ GW := inGW (i := 1133) (by decide +kernel) (by decide +kernel)
theorem kv_Mo_failedLong : Cond.selects "LastJarsModel" y_Mo_failedLong y_Mo_failedLong ∈ GW := inGW (i := 48) (by decide +kernel) (by decide +kernel)
abbrev c_Mo_noJar : ByteArray := prog_14_method_10_code
def y_Mo_noJar : MethodName := ⟨"LastJarsModel", "noJar", "(I)Z"⟩
theorem k_Mo_noJar : YI y_Mo_noJar c_Mo_noJar 2 (some .boolean) 1 := ⟨inGW (i := 923) (by decide +kernel) (by decide +kernel), ii_Mo, by decide +kernel, by decide +kernel⟩
theorem ki_Mo_noJar : Cond.instanceMethod y_Mo_noJar ∈ GW := inGW (i := 922) (by decide +kernel) (by decide +kernel)
theorem kv_Mo_noJar : Cond.selects "LastJarsModel" y_Mo_noJar y_Mo_noJar ∈ GW := inGW (i := 26) (by decide +kernel) (by decide +kernel)
abbrev c_Mo_noDecider : ByteArray := prog_14_method_11_code
def y_Mo_noDecider : MethodName := ⟨"LastJarsModel", "noDecider", "(I)Z"⟩
theorem k_Mo_noDecider : YI y_Mo_noDecider c_Mo_noDecider 2 (some .boolean) 1 := ⟨inGW (i := 943) (by decide +kernel) (by decide +kernel), ii_Mo, by decide +kernel, by decide +kernel⟩
theorem ki_Mo_noDecider : Cond.instanceMethod y_Mo_noDecider ∈ GW := inGW (i := 942) (by decide +kernel) (by decide +kernel)
theorem kv_Mo_noDecider : Cond.selects "LastJarsModel" y_Mo_noDecider y_Mo_noDecider ∈ GW := inGW (i := 30) (by decide +kernel) (by decide +kernel)
abbrev c_Mo_noBlend : ByteArray := prog_14_method_12_code
def y_Mo_noBlend : MethodName := ⟨"LastJarsModel", "noBlend", "(I)Z"⟩
theorem k_Mo_noBlend : YI y_Mo_noBlend c_Mo_noBlend 2 (some .boolean) 1 := ⟨inGW (i := 976) (by decide +kernel) (by decide +kernel), ii_Mo, by decide +kernel, by decide +kernel⟩
theorem ki_Mo_noBlend : Cond.instanceMethod y_Mo_noBlend ∈ GW := inGW (i := 975) (by decide +kernel) (by decide +kernel)
theorem kv_Mo_noBlend : Cond.selects "LastJarsModel" y_Mo_noBlend y_Mo_noBlend ∈ GW := inGW (i := 31) (by decide +kernel) (by decide +kernel)
abbrev c_Mo_codeAt : ByteArray := prog_14_method_13_code
def y_Mo_codeAt : MethodName := ⟨"LastJarsModel", "codeAt", "(II)I"⟩
theorem k_Mo_codeAt : YI y_Mo_codeAt c_Mo_codeAt 3 (some .int) 2 := ⟨inGW (i := 902) (by decide +kernel) (by decide +kernel), ii_Mo, by decide +kernel, by decide +kernel⟩
theorem ki_Mo_codeAt : Cond.instanceMethod y_Mo_codeAt ∈ GW := inGW (i := 901) (by decide +kernel) (by decide +kernel)
theorem kv_Mo_codeAt : Cond.selects "LastJarsModel" y_Mo_codeAt y_Mo_codeAt ∈ GW := inGW (i := 22) (by decide +kernel) (by decide +kernel)
abbrev c_Mo_figure : ByteArray := prog_14_method_14_code
def y_Mo_figure : MethodName := ⟨"LastJarsModel", "figure", "(III)I"⟩
theorem k_Mo_figure : YI y_Mo_figure c_Mo_figure 6 (some .int) 3 := ⟨inGW (i := 910) (by decide +kernel) (by decide +kernel), ii_Mo, by decide +kernel, by decide +kernel⟩
theorem ki_Mo_figure : Cond.instanceMethod y_Mo_figure ∈ GW := inGW (i := 909) (by decide +kernel) (by decide +kernel)
theorem kv_Mo_figure : Cond.selects "LastJarsModel" y_Mo_figure y_Mo_figure ∈ GW := inGW (i := 24) (by decide +kernel) (by decide +kernel)
abbrev c_Mo_readsJar : ByteArray := prog_14_method_15_code
def y_Mo_readsJar : MethodName := ⟨"LastJarsModel", "readsJar", "(II)Z"⟩
theorem k_Mo_readsJar : YI y_Mo_readsJar c_Mo_readsJar 8 (some .boolean) 2 := ⟨inGW (i := 906) (by decide +kernel) (by decide +kernel), ii_Mo, by decide +kernel, by decide +kernel⟩
theorem ki_Mo_readsJar : Cond.instanceMethod y_Mo_readsJar ∈ GW := inGW (i := 905) (by decide +kernel) (by decide +kernel)
theorem kv_Mo_readsJar : Cond.selects "LastJarsModel" y_Mo_readsJar y_Mo_readsJar ∈ GW := inGW (i := 23) (by decide +kernel) (by decide +kernel)
abbrev c_Mo_readsDecider : ByteArray := prog_14_method_16_code
def y_Mo_readsDecider : MethodName := ⟨"LastJarsModel", "readsDecider", "(II)Z"⟩
theorem k_Mo_readsDecider : YI y_Mo_readsDecider c_Mo_readsDecider 7 (some .boolean) 2 := ⟨inGW (i := 915) (by decide +kernel) (by decide +kernel), ii_Mo, by decide +kernel, by decide +kernel⟩
theorem ki_Mo_readsDecider : Cond.instanceMethod y_Mo_readsDecider ∈ GW := inGW (i := 914) (by decide +kernel) (by decide +kernel)
theorem kv_Mo_readsDecider : Cond.selects "LastJarsModel" y_Mo_readsDecider y_Mo_readsDecider ∈ GW := inGW (i := 25) (by decide +kernel) (by decide +kernel)
abbrev c_Mo_readsStore : ByteArray := prog_14_method_17_code
def y_Mo_readsStore : MethodName := ⟨"LastJarsModel", "readsStore", "(II)Z"⟩
theorem k_Mo_readsStore : YI y_Mo_readsStore c_Mo_readsStore 4 (some .boolean) 2 := ⟨inGW (i := 898) (by decide +kernel) (by decide +kernel), ii_Mo, by decide +kernel, by decide +kernel⟩
theorem ki_Mo_readsStore : Cond.instanceMethod y_Mo_readsStore ∈ GW := inGW (i := 897) (by decide +kernel) (by decide +kernel)
theorem kv_Mo_readsStore : Cond.selects "LastJarsModel" y_Mo_readsStore y_Mo_readsStore ∈ GW := inGW (i := 21) (by decide +kernel) (by decide +kernel)
abbrev c_Mo_cellsBarred : ByteArray := prog_14_method_18_code
def y_Mo_cellsBarred : MethodName := ⟨"LastJarsModel", "cellsBarred", "(IIIJ)I"⟩
theorem k_Mo_cellsBarred : YI y_Mo_cellsBarred c_Mo_cellsBarred 6 (some .int) 4 := ⟨inGW (i := 887) (by decide +kernel) (by decide +kernel), ii_Mo, by decide +kernel, by decide +kernel⟩
theorem ki_Mo_cellsBarred : Cond.instanceMethod y_Mo_cellsBarred ∈ GW := inGW (i := 886) (by decide +kernel) (by decide +kernel)
theorem kv_Mo_cellsBarred : Cond.selects "LastJarsModel" y_Mo_cellsBarred y_Mo_cellsBarred ∈ GW := inGW (i := 19) (by decide +kernel) (by decide +kernel)
abbrev c_Mo_store : ByteArray := prog_14_method_19_code
def y_Mo_store : MethodName := ⟨"LastJarsModel", "store", "(IIII)I"⟩
theorem k_Mo_store : YI y_Mo_store c_Mo_store 7 (some .int) 4 := ⟨inGW (i := 871) (by decide +kernel) (by decide +kernel), ii_Mo, by decide +kernel, by decide +kernel⟩
theorem ki_Mo_store : Cond.instanceMethod y_Mo_store ∈ GW := inGW (i := 869) (by decide +kernel) (by decide +kernel)
theorem kv_Mo_store : Cond.selects "LastJarsModel" y_Mo_store y_Mo_store ∈ GW := inGW (i := 870) (by decide +kernel) (by decide +kernel)
abbrev c_Mo_leafMark : ByteArray := prog_14_method_20_code
def y_Mo_leafMark : MethodName := ⟨"LastJarsModel", "leafMark", "(II)I"⟩
theorem k_Mo_leafMark : YI y_Mo_leafMark c_Mo_leafMark 4 (some .int) 2 := ⟨inGW (i := 935) (by decide +kernel) (by decide +kernel), ii_Mo, by decide +kernel, by decide +kernel⟩
theorem ki_Mo_leafMark : Cond.instanceMethod y_Mo_leafMark ∈ GW := inGW (i := 934) (by decide +kernel) (by decide +kernel)
theorem kv_Mo_leafMark : Cond.selects "LastJarsModel" y_Mo_leafMark y_Mo_leafMark ∈ GW := inGW (i := 29) (by decide +kernel) (by decide +kernel)
abbrev c_Mo_markOf : ByteArray := prog_14_method_21_code
def y_Mo_markOf : MethodName := ⟨"LastJarsModel", "markOf", "(II)I"⟩
theorem k_Mo_markOf : YI y_Mo_markOf c_Mo_markOf 4 (some .int) 2 := ⟨inGW (i := 931) (by decide +kernel) (by decide +kernel), ii_Mo, by decide +kernel, by decide +kernel⟩
theorem ki_Mo_markOf : Cond.instanceMethod y_Mo_markOf ∈ GW := inGW (i := 930) (by decide +kernel) (by decide +kernel)
theorem kv_Mo_markOf : Cond.selects "LastJarsModel" y_Mo_markOf y_Mo_markOf ∈ GW := inGW (i := 28) (by decide +kernel) (by decide +kernel)
abbrev c_Mo_greatestMark : ByteArray := prog_14_method_22_code
def y_Mo_greatestMark : MethodName := ⟨"LastJarsModel", "greatestMark", "(I)I"⟩
theorem k_Mo_greatestMark : YI y_Mo_greatestMark c_Mo_greatestMark 4 (some .int) 1 := ⟨inGW (i := 927) (by decide +kernel) (by decide +kernel), ii_Mo, by decide +kernel, by decide +kernel⟩
theorem ki_Mo_greatestMark : Cond.instanceMethod y_Mo_greatestMark ∈ GW := inGW (i := 926) (by decide +kernel) (by decide +kernel)
theorem kv_Mo_greatestMark : Cond.selects "LastJarsModel" y_Mo_greatestMark y_Mo_greatestMark ∈ GW := inGW (i := 27) (by decide +kernel) (by decide +kernel)
abbrev c_Mo_ofJar : ByteArray := prog_14_method_23_code
def y_Mo_ofJar : MethodName := ⟨"LastJarsModel", "ofJar", "(II)I"⟩
theorem k_Mo_ofJar : YI y_Mo_ofJar c_Mo_ofJar 3 (some .int) 2 := ⟨inGW (i := 919) (by decide +kernel) (by decide +kernel), ii_Mo, by decide +kernel, by decide +kernel⟩
theorem ki_Mo_ofJar : Cond.instanceMethod y_Mo_ofJar ∈ GW := inGW (i := 917) (by decide +kernel) (by decide +kernel)
theorem kv_Mo_ofJar : Cond.selects "LastJarsModel" y_Mo_ofJar y_Mo_ofJar ∈ GW := inGW (i := 918) (by decide +kernel) (by decide +kernel)
abbrev c_Mo_ofDecider : ByteArray := prog_14_method_24_code
def y_Mo_ofDecider : MethodName := ⟨"LastJarsModel", "ofDecider", "(II)I"⟩
theorem k_Mo_ofDecider : YI y_Mo_ofDecider c_Mo_ofDecider 3 (some .int) 2 := ⟨inGW (i := 939) (by decide +kernel) (by decide +kernel), ii_Mo, by decide +kernel, by decide +kernel⟩
theorem ki_Mo_ofDecider : Cond.instanceMethod y_Mo_ofDecider ∈ GW := inGW (i := 937) (by decide +kernel) (by decide +kernel)
theorem kv_Mo_ofDecider : Cond.selects "LastJarsModel" y_Mo_ofDecider y_Mo_ofDecider ∈ GW := inGW (i := 938) (by decide +kernel) (by decide +kernel)
abbrev c_Mo_cure : ByteArray := prog_14_method_25_code
def y_Mo_cure : MethodName := ⟨"LastJarsModel", "cure", "(II)I"⟩
theorem k_Mo_cure : YI y_Mo_cure c_Mo_cure 4 (some .int) 2 := ⟨inGW (i := 947) (by decide +kernel) (by decide +kernel), ii_Mo, by decide +kernel, by decide +kernel⟩
theorem ki_Mo_cure : Cond.instanceMethod y_Mo_cure ∈ GW := inGW (i := 945) (by decide +kernel) (by decide +kernel)
theorem kv_Mo_cure : Cond.selects "LastJarsModel" y_Mo_cure y_Mo_cure ∈ GW := inGW (i := 946) (by decide +kernel) (by decide +kernel)
abbrev c_Mo_fetch : ByteArray := prog_14_method_26_code
def y_Mo_fetch : MethodName := ⟨"LastJarsModel", "fetch", "(II)I"⟩
theorem k_Mo_fetch : YI y_Mo_fetch c_Mo_fetch 4 (some .int) 2 := ⟨inGW (i := 951) (by decide +kernel) (by decide +kernel), ii_Mo, by decide +kernel, by decide +kernel⟩
theorem ki_Mo_fetch : Cond.instanceMethod y_Mo_fetch ∈ GW := inGW (i := 949) (by decide +kernel) (by decide +kernel)
theorem kv_Mo_fetch : Cond.selects "LastJarsModel" y_Mo_fetch y_Mo_fetch ∈ GW := inGW (i := 950) (by decide +kernel) (by decide +kernel)
abbrev c_Mo_price : ByteArray := prog_14_method_27_code
def y_Mo_price : MethodName := ⟨"LastJarsModel", "price", "(II)I"⟩
theorem k_Mo_price : YI y_Mo_price c_Mo_price 4 (some .int) 2 := ⟨inGW (i := 955) (by decide +kernel) (by decide +kernel), ii_Mo, by decide +kernel, by decide +kernel⟩
theorem ki_Mo_price : Cond.instanceMethod y_Mo_price ∈ GW := inGW (i := 953) (by decide +kernel) (by decide +kernel)
theorem kv_Mo_price : Cond.selects "LastJarsModel" y_Mo_price y_Mo_price ∈ GW := inGW (i := 954) (by decide +kernel) (by decide +kernel)
abbrev c_Mo_dread : ByteArray := prog_14_method_28_code
def y_Mo_dread : MethodName := ⟨"LastJarsModel", "dread", "(II)I"⟩
theorem k_Mo_dread : YI y_Mo_dread c_Mo_dread 4 (some .int) 2 := ⟨inGW (i := 959) (by decide +kernel) (by decide +kernel), ii_Mo, by decide +kernel, by decide +kernel⟩
theorem ki_Mo_dread : Cond.instanceMethod y_Mo_dread ∈ GW := inGW (i := 957) (by decide +kernel) (by decide +kernel)
theorem kv_Mo_dread : Cond.selects "LastJarsModel" y_Mo_dread y_Mo_dread ∈ GW := inGW (i := 958) (by decide +kernel) (by decide +kernel)
abbrev c_Mo_pay : ByteArray := prog_14_method_29_code
def y_Mo_pay : MethodName := ⟨"LastJarsModel", "pay", "(II)I"⟩
theorem k_Mo_pay : YI y_Mo_pay c_Mo_pay 4 (some .int) 2 := ⟨inGW (i := 963) (by decide +kernel) (by decide +kernel), ii_Mo, by decide +kernel, by decide +kernel⟩
theorem ki_Mo_pay : Cond.instanceMethod y_Mo_pay ∈ GW := inGW (i := 961) (by decide +kernel) (by decide +kernel)
theorem kv_Mo_pay : Cond.selects "LastJarsModel" y_Mo_pay y_Mo_pay ∈ GW := inGW (i := 962) (by decide +kernel) (by decide +kernel)
abbrev c_Mo_mark : ByteArray := prog_14_method_30_code
def y_Mo_mark : MethodName := ⟨"LastJarsModel", "mark", "(II)I"⟩
theorem k_Mo_mark : YI y_Mo_mark c_Mo_mark 3 (some .int) 2 := ⟨inGW (i := 968) (by decide +kernel) (by decide +kernel), ii_Mo, by decide +kernel, by decide +kernel⟩
theorem ki_Mo_mark : Cond.instanceMethod y_Mo_mark ∈ GW := inGW (i := 966) (by decide +kernel) (by decide +kernel)
theorem kv_Mo_mark : Cond.selects "LastJarsModel" y_Mo_mark y_Mo_mark ∈ GW := inGW (i := 967) (by decide +kernel) (by decide +kernel)
abbrev c_Mo_blendOf : ByteArray := prog_14_method_31_code
def y_Mo_blendOf : MethodName := ⟨"LastJarsModel", "blendOf", "(II)I"⟩
theorem k_Mo_blendOf : YI y_Mo_blendOf c_Mo_blendOf 5 (some .int) 2 := ⟨inGW (i := 980) (by decide +kernel) (by decide +kernel), ii_Mo, by decide +kernel, by decide +kernel⟩
theorem ki_Mo_blendOf : Cond.instanceMethod y_Mo_blendOf ∈ GW := inGW (i := 979) (by decide +kernel) (by decide +kernel)
theorem kv_Mo_blendOf : Cond.selects "LastJarsModel" y_Mo_blendOf y_Mo_blendOf ∈ GW := inGW (i := 32) (by decide +kernel) (by decide +kernel)
abbrev c_Mo_blend : ByteArray := prog_14_method_32_code
def y_Mo_blend : MethodName := ⟨"LastJarsModel", "blend", "(II)I"⟩
theorem k_Mo_blend : YI y_Mo_blend c_Mo_blend 3 (some .int) 2 := ⟨inGW (i := 972) (by decide +kernel) (by decide +kernel), ii_Mo, by decide +kernel, by decide +kernel⟩
theorem ki_Mo_blend : Cond.instanceMethod y_Mo_blend ∈ GW := inGW (i := 970) (by decide +kernel) (by decide +kernel)
theorem kv_Mo_blend : Cond.selects "LastJarsModel" y_Mo_blend y_Mo_blend ∈ GW := inGW (i := 971) (by decide +kernel) (by decide +kernel)
abbrev c_Mo_hold : ByteArray := prog_14_method_33_code
def y_Mo_hold : MethodName := ⟨"LastJarsModel", "hold", "(II)I"⟩
theorem k_Mo_hold : YI y_Mo_hold c_Mo_hold 6 (some .int) 2 := ⟨inGW (i := 990) (by decide +kernel) (by decide +kernel), ii_Mo, by decide +kernel, by decide +kernel⟩
theorem ki_Mo_hold : Cond.instanceMethod y_Mo_hold ∈ GW := inGW (i := 988) (by decide +kernel) (by decide +kernel)
theorem kv_Mo_hold : Cond.selects "LastJarsModel" y_Mo_hold y_Mo_hold ∈ GW := inGW (i := 989) (by decide +kernel) (by decide +kernel)
abbrev c_Mo_decides : ByteArray := prog_14_method_34_code
def y_Mo_decides : MethodName := ⟨"LastJarsModel", "decides", "(II)Z"⟩
theorem k_Mo_decides : YI y_Mo_decides c_Mo_decides 3 (some .boolean) 2 := ⟨inGW (i := 1006) (by decide +kernel) (by decide +kernel), ii_Mo, by decide +kernel, by decide +kernel⟩
theorem ki_Mo_decides : Cond.instanceMethod y_Mo_decides ∈ GW := inGW (i := 1005) (by decide +kernel) (by decide +kernel)
theorem kv_Mo_decides : Cond.selects "LastJarsModel" y_Mo_decides y_Mo_decides ∈ GW := inGW (i := 35) (by decide +kernel) (by decide +kernel)
abbrev c_Mo_canSell : ByteArray := prog_14_method_35_code
def y_Mo_canSell : MethodName := ⟨"LastJarsModel", "canSell", "(II)Z"⟩
theorem k_Mo_canSell : YI y_Mo_canSell c_Mo_canSell 3 (some .boolean) 2 := ⟨inGW (i := 998) (by decide +kernel) (by decide +kernel), ii_Mo, by decide +kernel, by decide +kernel⟩
theorem ki_Mo_canSell : Cond.instanceMethod y_Mo_canSell ∈ GW := inGW (i := 997) (by decide +kernel) (by decide +kernel)
theorem kv_Mo_canSell : Cond.selects "LastJarsModel" y_Mo_canSell y_Mo_canSell ∈ GW := inGW (i := 33) (by decide +kernel) (by decide +kernel)
abbrev c_Mo_sold : ByteArray := prog_14_method_36_code
def y_Mo_sold : MethodName := ⟨"LastJarsModel", "sold", "(II)I"⟩
theorem k_Mo_sold : YI y_Mo_sold c_Mo_sold 3 (some .int) 2 := ⟨inGW (i := 1002) (by decide +kernel) (by decide +kernel), ii_Mo, by decide +kernel, by decide +kernel⟩
theorem ki_Mo_sold : Cond.instanceMethod y_Mo_sold ∈ GW := inGW (i := 1001) (by decide +kernel) (by decide +kernel)
theorem kv_Mo_sold : Cond.selects "LastJarsModel" y_Mo_sold y_Mo_sold ∈ GW := inGW (i := 34) (by decide +kernel) (by decide +kernel)
abbrev c_Mo_sell : ByteArray := prog_14_method_37_code
def y_Mo_sell : MethodName := ⟨"LastJarsModel", "sell", "(II)I"⟩
theorem k_Mo_sell : YI y_Mo_sell c_Mo_sell 4 (some .int) 2 := ⟨inGW (i := 994) (by decide +kernel) (by decide +kernel), ii_Mo, by decide +kernel, by decide +kernel⟩
theorem ki_Mo_sell : Cond.instanceMethod y_Mo_sell ∈ GW := inGW (i := 992) (by decide +kernel) (by decide +kernel)
theorem kv_Mo_sell : Cond.selects "LastJarsModel" y_Mo_sell y_Mo_sell ∈ GW := inGW (i := 993) (by decide +kernel) (by decide +kernel)
abbrev c_Mo_yearBy : ByteArray := prog_14_method_38_code
def y_Mo_yearBy : MethodName := ⟨"LastJarsModel", "yearBy", "(III)I"⟩
theorem k_Mo_yearBy : YI y_Mo_yearBy c_Mo_yearBy 10 (some .int) 3 := ⟨inGW (i := 1022) (by decide +kernel) (by decide +kernel), ii_Mo, by decide +kernel, by decide +kernel⟩
theorem ki_Mo_yearBy : Cond.instanceMethod y_Mo_yearBy ∈ GW := inGW (i := 1021) (by decide +kernel) (by decide +kernel)
theorem kv_Mo_yearBy : Cond.selects "LastJarsModel" y_Mo_yearBy y_Mo_yearBy ∈ GW := inGW (i := 37) (by decide +kernel) (by decide +kernel)
abbrev c_Mo_arePairs : ByteArray := prog_14_method_39_code
def y_Mo_arePairs : MethodName := ⟨"LastJarsModel", "arePairs", "(II)Z"⟩
theorem k_Mo_arePairs : YI y_Mo_arePairs c_Mo_arePairs 5 (some .boolean) 2 := ⟨inGW (i := 1018) (by decide +kernel) (by decide +kernel), ii_Mo, by decide +kernel, by decide +kernel⟩
theorem ki_Mo_arePairs : Cond.instanceMethod y_Mo_arePairs ∈ GW := inGW (i := 1017) (by decide +kernel) (by decide +kernel)
theorem kv_Mo_arePairs : Cond.selects "LastJarsModel" y_Mo_arePairs y_Mo_arePairs ∈ GW := inGW (i := 36) (by decide +kernel) (by decide +kernel)
abbrev c_Mo_year : ByteArray := prog_14_method_40_code
def y_Mo_year : MethodName := ⟨"LastJarsModel", "year", "(IIIII)I"⟩
theorem k_Mo_year : YI y_Mo_year c_Mo_year 10 (some .int) 5 := ⟨inGW (i := 1010) (by decide +kernel) (by decide +kernel), ii_Mo, by decide +kernel, by decide +kernel⟩
theorem ki_Mo_year : Cond.instanceMethod y_Mo_year ∈ GW := inGW (i := 1008) (by decide +kernel) (by decide +kernel)
theorem kv_Mo_year : Cond.selects "LastJarsModel" y_Mo_year y_Mo_year ∈ GW := inGW (i := 1009) (by decide +kernel) (by decide +kernel)
abbrev c_Mo_leftNow : ByteArray := prog_14_method_41_code
def y_Mo_leftNow : MethodName := ⟨"LastJarsModel", "leftNow", "()I"⟩
theorem k_Mo_leftNow : YI y_Mo_leftNow c_Mo_leftNow 3 (some .int) 0 := ⟨inGW (i := 1030) (by decide +kernel) (by decide +kernel), ii_Mo, by decide +kernel, by decide +kernel⟩
theorem ki_Mo_leftNow : Cond.instanceMethod y_Mo_leftNow ∈ GW := inGW (i := 1029) (by decide +kernel) (by decide +kernel)
theorem kv_Mo_leftNow : Cond.selects "LastJarsModel" y_Mo_leftNow y_Mo_leftNow ∈ GW := inGW (i := 38) (by decide +kernel) (by decide +kernel)
abbrev c_Mo_pricesOf : ByteArray := prog_14_method_42_code
def y_Mo_pricesOf : MethodName := ⟨"LastJarsModel", "pricesOf", "(I)I"⟩
theorem k_Mo_pricesOf : YI y_Mo_pricesOf c_Mo_pricesOf 4 (some .int) 1 := ⟨inGW (i := 1034) (by decide +kernel) (by decide +kernel), ii_Mo, by decide +kernel, by decide +kernel⟩
theorem ki_Mo_pricesOf : Cond.instanceMethod y_Mo_pricesOf ∈ GW := inGW (i := 1033) (by decide +kernel) (by decide +kernel)
theorem kv_Mo_pricesOf : Cond.selects "LastJarsModel" y_Mo_pricesOf y_Mo_pricesOf ∈ GW := inGW (i := 39) (by decide +kernel) (by decide +kernel)
abbrev c_Mo_isRather : ByteArray := prog_14_method_43_code
def y_Mo_isRather : MethodName := ⟨"LastJarsModel", "isRather", "(II)Z"⟩
theorem k_Mo_isRather : YI y_Mo_isRather c_Mo_isRather 4 (some .boolean) 2 := ⟨inGW (i := 1038) (by decide +kernel) (by decide +kernel), ii_Mo, by decide +kernel, by decide +kernel⟩
theorem ki_Mo_isRather : Cond.instanceMethod y_Mo_isRather ∈ GW := inGW (i := 1037) (by decide +kernel) (by decide +kernel)
theorem kv_Mo_isRather : Cond.selects "LastJarsModel" y_Mo_isRather y_Mo_isRather ∈ GW := inGW (i := 40) (by decide +kernel) (by decide +kernel)
abbrev c_Mo_mix : ByteArray := prog_14_method_44_code
def y_Mo_mix : MethodName := ⟨"LastJarsModel", "mix", "(II)I"⟩
theorem k_Mo_mix : YI y_Mo_mix c_Mo_mix 7 (some .int) 2 := ⟨inGW (i := 1026) (by decide +kernel) (by decide +kernel), ii_Mo, by decide +kernel, by decide +kernel⟩
theorem ki_Mo_mix : Cond.instanceMethod y_Mo_mix ∈ GW := inGW (i := 1024) (by decide +kernel) (by decide +kernel)
theorem kv_Mo_mix : Cond.selects "LastJarsModel" y_Mo_mix y_Mo_mix ∈ GW := inGW (i := 1025) (by decide +kernel) (by decide +kernel)
abbrev c_Mo_areLike : ByteArray := prog_14_method_45_code
def y_Mo_areLike : MethodName := ⟨"LastJarsModel", "areLike", "(II)Z"⟩
theorem k_Mo_areLike : YI y_Mo_areLike c_Mo_areLike 5 (some .boolean) 2 := ⟨inGW (i := 1046) (by decide +kernel) (by decide +kernel), ii_Mo, by decide +kernel, by decide +kernel⟩
theorem ki_Mo_areLike : Cond.instanceMethod y_Mo_areLike ∈ GW := inGW (i := 1045) (by decide +kernel) (by decide +kernel)
theorem kv_Mo_areLike : Cond.selects "LastJarsModel" y_Mo_areLike y_Mo_areLike ∈ GW := inGW (i := 41) (by decide +kernel) (by decide +kernel)
abbrev c_Mo_like : ByteArray := prog_14_method_46_code
def y_Mo_like : MethodName := ⟨"LastJarsModel", "like", "(I)I"⟩
theorem k_Mo_like : YI y_Mo_like c_Mo_like 5 (some .int) 1 := ⟨inGW (i := 1042) (by decide +kernel) (by decide +kernel), ii_Mo, by decide +kernel, by decide +kernel⟩
theorem ki_Mo_like : Cond.instanceMethod y_Mo_like ∈ GW := inGW (i := 1040) (by decide +kernel) (by decide +kernel)
theorem kv_Mo_like : Cond.selects "LastJarsModel" y_Mo_like y_Mo_like ∈ GW := inGW (i := 1041) (by decide +kernel) (by decide +kernel)
abbrev c_Mo_isTold : ByteArray := prog_14_method_47_code
def y_Mo_isTold : MethodName := ⟨"LastJarsModel", "isTold", "(III)Z"⟩
theorem k_Mo_isTold : YI y_Mo_isTold c_Mo_isTold 6 (some .boolean) 3 := ⟨inGW (i := 1058) (by decide +kernel) (by decide +kernel), ii_Mo, by decide +kernel, by decide +kernel⟩
theorem ki_Mo_isTold : Cond.instanceMethod y_Mo_isTold ∈ GW := inGW (i := 1057) (by decide +kernel) (by decide +kernel)
theorem kv_Mo_isTold : Cond.selects "LastJarsModel" y_Mo_isTold y_Mo_isTold ∈ GW := inGW (i := 43) (by decide +kernel) (by decide +kernel)
abbrev c_Mo_guessBy : ByteArray := prog_14_method_48_code
def y_Mo_guessBy : MethodName := ⟨"LastJarsModel", "guessBy", "(III)I"⟩
theorem k_Mo_guessBy : YI y_Mo_guessBy c_Mo_guessBy 10 (some .int) 3 := ⟨inGW (i := 1054) (by decide +kernel) (by decide +kernel), ii_Mo, by decide +kernel, by decide +kernel⟩
theorem ki_Mo_guessBy : Cond.instanceMethod y_Mo_guessBy ∈ GW := inGW (i := 1053) (by decide +kernel) (by decide +kernel)
theorem kv_Mo_guessBy : Cond.selects "LastJarsModel" y_Mo_guessBy y_Mo_guessBy ∈ GW := inGW (i := 42) (by decide +kernel) (by decide +kernel)
abbrev c_Mo_guess : ByteArray := prog_14_method_49_code
def y_Mo_guess : MethodName := ⟨"LastJarsModel", "guess", "(IIIII)I"⟩
theorem k_Mo_guess : YI y_Mo_guess c_Mo_guess 7 (some .int) 5 := ⟨inGW (i := 1050) (by decide +kernel) (by decide +kernel), ii_Mo, by decide +kernel, by decide +kernel⟩
theorem ki_Mo_guess : Cond.instanceMethod y_Mo_guess ∈ GW := inGW (i := 1048) (by decide +kernel) (by decide +kernel)
theorem kv_Mo_guess : Cond.selects "LastJarsModel" y_Mo_guess y_Mo_guess ∈ GW := inGW (i := 1049) (by decide +kernel) (by decide +kernel)
abbrev c_Mo_decideBy : ByteArray := prog_14_method_50_code
def y_Mo_decideBy : MethodName := ⟨"LastJarsModel", "decideBy", "(II)I"⟩
theorem k_Mo_decideBy : YI y_Mo_decideBy c_Mo_decideBy 9 (some .int) 2 := ⟨inGW (i := 1071) (by decide +kernel) (by decide +kernel), ii_Mo, by decide +kernel, by decide +kernel⟩
theorem ki_Mo_decideBy : Cond.instanceMethod y_Mo_decideBy ∈ GW := inGW (i := 1070) (by decide +kernel) (by decide +kernel)
theorem kv_Mo_decideBy : Cond.selects "LastJarsModel" y_Mo_decideBy y_Mo_decideBy ∈ GW := inGW (i := 45) (by decide +kernel) (by decide +kernel)
abbrev c_Mo_mostServed : ByteArray := prog_14_method_51_code
def y_Mo_mostServed : MethodName := ⟨"LastJarsModel", "mostServed", "()I"⟩
theorem k_Mo_mostServed : YI y_Mo_mostServed c_Mo_mostServed 6 (some .int) 0 := ⟨inGW (i := 1067) (by decide +kernel) (by decide +kernel), ii_Mo, by decide +kernel, by decide +kernel⟩
theorem ki_Mo_mostServed : Cond.instanceMethod y_Mo_mostServed ∈ GW := inGW (i := 1066) (by decide +kernel) (by decide +kernel)
theorem kv_Mo_mostServed : Cond.selects "LastJarsModel" y_Mo_mostServed y_Mo_mostServed ∈ GW := inGW (i := 44) (by decide +kernel) (by decide +kernel)
abbrev c_Mo_serve : ByteArray := prog_14_method_52_code
def y_Mo_serve : MethodName := ⟨"LastJarsModel", "serve", "(I)I"⟩
theorem k_Mo_serve : YI y_Mo_serve c_Mo_serve 5 (some .int) 1 := ⟨inGW (i := 1062) (by decide +kernel) (by decide +kernel), ii_Mo, by decide +kernel, by decide +kernel⟩
theorem ki_Mo_serve : Cond.instanceMethod y_Mo_serve ∈ GW := inGW (i := 1060) (by decide +kernel) (by decide +kernel)
theorem kv_Mo_serve : Cond.selects "LastJarsModel" y_Mo_serve y_Mo_serve ∈ GW := inGW (i := 1061) (by decide +kernel) (by decide +kernel)
abbrev c_Mo_dear : ByteArray := prog_14_method_53_code
def y_Mo_dear : MethodName := ⟨"LastJarsModel", "dear", "(I)I"⟩
theorem k_Mo_dear : YI y_Mo_dear c_Mo_dear 6 (some .int) 1 := ⟨inGW (i := 1075) (by decide +kernel) (by decide +kernel), ii_Mo, by decide +kernel, by decide +kernel⟩
theorem ki_Mo_dear : Cond.instanceMethod y_Mo_dear ∈ GW := inGW (i := 1073) (by decide +kernel) (by decide +kernel)
theorem kv_Mo_dear : Cond.selects "LastJarsModel" y_Mo_dear y_Mo_dear ∈ GW := inGW (i := 1074) (by decide +kernel) (by decide +kernel)
abbrev c_Mo_reading : ByteArray := prog_14_method_54_code
def y_Mo_reading : MethodName := ⟨"LastJarsModel", "reading", "(III)I"⟩
theorem k_Mo_reading : YI y_Mo_reading c_Mo_reading 4 (some .int) 3 := ⟨inGW (i := 1079) (by decide +kernel) (by decide +kernel), ii_Mo, by decide +kernel, by decide +kernel⟩
theorem ki_Mo_reading : Cond.instanceMethod y_Mo_reading ∈ GW := inGW (i := 1077) (by decide +kernel) (by decide +kernel)
theorem kv_Mo_reading : Cond.selects "LastJarsModel" y_Mo_reading y_Mo_reading ∈ GW := inGW (i := 1078) (by decide +kernel) (by decide +kernel)
abbrev c_Mo_back : ByteArray := prog_14_method_55_code
def y_Mo_back : MethodName := ⟨"LastJarsModel", "back", "(I)I"⟩
theorem k_Mo_back : YI y_Mo_back c_Mo_back 2 (some .int) 1 := ⟨inGW (i := 1083) (by decide +kernel) (by decide +kernel), ii_Mo, by decide +kernel, by decide +kernel⟩
theorem ki_Mo_back : Cond.instanceMethod y_Mo_back ∈ GW := inGW (i := 1081) (by decide +kernel) (by decide +kernel)
theorem kv_Mo_back : Cond.selects "LastJarsModel" y_Mo_back y_Mo_back ∈ GW := inGW (i := 1082) (by decide +kernel) (by decide +kernel)
abbrev c_Mo_areSo : ByteArray := prog_14_method_56_code
def y_Mo_areSo : MethodName := ⟨"LastJarsModel", "areSo", "()Z"⟩
theorem k_Mo_areSo : YI y_Mo_areSo c_Mo_areSo 3 (some .boolean) 0 := ⟨inGW (i := 1091) (by decide +kernel) (by decide +kernel), ii_Mo, by decide +kernel, by decide +kernel⟩
theorem ki_Mo_areSo : Cond.instanceMethod y_Mo_areSo ∈ GW := inGW (i := 1090) (by decide +kernel) (by decide +kernel)
theorem kv_Mo_areSo : Cond.selects "LastJarsModel" y_Mo_areSo y_Mo_areSo ∈ GW := inGW (i := 46) (by decide +kernel) (by decide +kernel)
abbrev c_Mo_sures : ByteArray := prog_14_method_57_code
def y_Mo_sures : MethodName := ⟨"LastJarsModel", "sures", "(I)I"⟩
theorem k_Mo_sures : YI y_Mo_sures c_Mo_sures 5 (some .int) 1 := ⟨inGW (i := 1087) (by decide +kernel) (by decide +kernel), ii_Mo, by decide +kernel, by decide +kernel⟩
theorem ki_Mo_sures : Cond.instanceMethod y_Mo_sures ∈ GW := inGW (i := 1085) (by decide +kernel) (by decide +kernel)
theorem kv_Mo_sures : Cond.selects "LastJarsModel" y_Mo_sures y_Mo_sures ∈ GW := inGW (i := 1086) (by decide +kernel) (by decide +kernel)
abbrev c_Mo_fades : ByteArray := prog_14_method_58_code
def y_Mo_fades : MethodName := ⟨"LastJarsModel", "fades", "(I)I"⟩
theorem k_Mo_fades : YI y_Mo_fades c_Mo_fades 5 (some .int) 1 := ⟨inGW (i := 1095) (by decide +kernel) (by decide +kernel), ii_Mo, by decide +kernel, by decide +kernel⟩
theorem ki_Mo_fades : Cond.instanceMethod y_Mo_fades ∈ GW := inGW (i := 1093) (by decide +kernel) (by decide +kernel)
theorem kv_Mo_fades : Cond.selects "LastJarsModel" y_Mo_fades y_Mo_fades ∈ GW := inGW (i := 1094) (by decide +kernel) (by decide +kernel)
abbrev c_Mo_kinds : ByteArray := prog_14_method_59_code
def y_Mo_kinds : MethodName := ⟨"LastJarsModel", "kinds", "(I)I"⟩
theorem k_Mo_kinds : YI y_Mo_kinds c_Mo_kinds 5 (some .int) 1 := ⟨inGW (i := 1099) (by decide +kernel) (by decide +kernel), ii_Mo, by decide +kernel, by decide +kernel⟩
theorem ki_Mo_kinds : Cond.instanceMethod y_Mo_kinds ∈ GW := inGW (i := 1097) (by decide +kernel) (by decide +kernel)
theorem kv_Mo_kinds : Cond.selects "LastJarsModel" y_Mo_kinds y_Mo_kinds ∈ GW := inGW (i := 1098) (by decide +kernel) (by decide +kernel)
abbrev c_Mo_odds : ByteArray := prog_14_method_60_code
def y_Mo_odds : MethodName := ⟨"LastJarsModel", "odds", "(II)J"⟩
theorem k_Mo_odds : YI y_Mo_odds c_Mo_odds 9 (some .long) 2 := ⟨inGW (i := 1103) (by decide +kernel) (by decide +kernel), ii_Mo, by decide +kernel, by decide +kernel⟩
theorem ki_Mo_odds : Cond.instanceMethod y_Mo_odds ∈ GW := inGW (i := 1101) (by decide +kernel) (by decide +kernel)
theorem kv_Mo_odds : Cond.selects "LastJarsModel" y_Mo_odds y_Mo_odds ∈ GW := inGW (i := 1102) (by decide +kernel) (by decide +kernel)
abbrev c_Mo_noSheet : ByteArray := prog_14_method_61_code
def y_Mo_noSheet : MethodName := ⟨"LastJarsModel", "noSheet", "(I)Z"⟩
theorem k_Mo_noSheet : YI y_Mo_noSheet c_Mo_noSheet 1 (some .boolean) 1 := ⟨inGW (i := 874) (by decide +kernel) (by decide +kernel), ii_Mo, by decide +kernel, by decide +kernel⟩
theorem ks_Mo_noSheet : Cond.static y_Mo_noSheet ∈ GW := inGW (i := 873) (by decide +kernel) (by decide +kernel)
abbrev c_Mo_sheet : ByteArray := prog_14_method_62_code
def y_Mo_sheet : MethodName := ⟨"LastJarsModel", "sheet", "(III)I"⟩
theorem k_Mo_sheet : YI y_Mo_sheet c_Mo_sheet 5 (some .int) 3 := ⟨inGW (i := 1114) (by decide +kernel) (by decide +kernel), ii_Mo, by decide +kernel, by decide +kernel⟩
theorem ki_Mo_sheet : Cond.instanceMethod y_Mo_sheet ∈ GW := inGW (i := 1112) (by decide +kernel) (by decide +kernel)
theorem kv_Mo_sheet : Cond.selects "LastJarsModel" y_Mo_sheet y_Mo_sheet ∈ GW := inGW (i := 1113) (by decide +kernel) (by decide +kernel)
abbrev c_Mo_lose : ByteArray := prog_14_method_63_code
def y_Mo_lose : MethodName := ⟨"LastJarsModel", "lose", "(I)I"⟩
theorem k_Mo_lose : YI y_Mo_lose c_Mo_lose 3 (some .int) 1 := ⟨inGW (i := 1118) (by decide +kernel) (by decide +kernel), ii_Mo, by decide +kernel, by decide +kernel⟩
theorem ki_Mo_lose : Cond.instanceMethod y_Mo_lose ∈ GW := inGW (i := 1116) (by decide +kernel) (by decide +kernel)
theorem kv_Mo_lose : Cond.selects "LastJarsModel" y_Mo_lose y_Mo_lose ∈ GW := inGW (i := 1117) (by decide +kernel) (by decide +kernel)
abbrev c_Mo_noCell : ByteArray := prog_14_method_64_code
def y_Mo_noCell : MethodName := ⟨"LastJarsModel", "noCell", "(II)I"⟩
theorem k_Mo_noCell : YI y_Mo_noCell c_Mo_noCell 3 (some .int) 2 := ⟨inGW (i := 1126) (by decide +kernel) (by decide +kernel), ii_Mo, by decide +kernel, by decide +kernel⟩
theorem ki_Mo_noCell : Cond.instanceMethod y_Mo_noCell ∈ GW := inGW (i := 1125) (by decide +kernel) (by decide +kernel)
theorem kv_Mo_noCell : Cond.selects "LastJarsModel" y_Mo_noCell y_Mo_noCell ∈ GW := inGW (i := 47) (by decide +kernel) (by decide +kernel)
abbrev c_Mo_put : ByteArray := prog_14_method_65_code
def y_Mo_put : MethodName := ⟨"LastJarsModel", "put", "(III)I"⟩
theorem k_Mo_put : YI y_Mo_put c_Mo_put 4 (some .int) 3 := ⟨inGW (i := 1122) (by decide +kernel) (by decide +kernel), ii_Mo, by decide +kernel, by decide +kernel⟩
theorem ki_Mo_put : Cond.instanceMethod y_Mo_put ∈ GW := inGW (i := 1120) (by decide +kernel) (by decide +kernel)
theorem kv_Mo_put : Cond.selects "LastJarsModel" y_Mo_put y_Mo_put ∈ GW := inGW (i := 1121) (by decide +kernel) (by decide +kernel)
abbrev c_Mo_cell : ByteArray := prog_14_method_66_code
def y_Mo_cell : MethodName := ⟨"LastJarsModel", "cell", "(III)J"⟩
theorem k_Mo_cell : YI y_Mo_cell c_Mo_cell 4 (some .long) 3 := ⟨inGW (i := 1130) (by decide +kernel) (by decide +kernel), ii_Mo, by decide +kernel, by decide +kernel⟩
theorem ki_Mo_cell : Cond.instanceMethod y_Mo_cell ∈ GW := inGW (i := 1128) (by decide +kernel) (by decide +kernel)
theorem kv_Mo_cell : Cond.selects "LastJarsModel" y_Mo_cell y_Mo_cell ∈ GW := inGW (i := 1129) (by decide +kernel) (by decide +kernel)
abbrev c_Mo_isBeyond : ByteArray := prog_14_method_67_code
def y_Mo_isBeyond : MethodName := ⟨"LastJarsModel", "isBeyond", "(IJI)Z"⟩
theorem k_Mo_isBeyond : YI y_Mo_isBeyond c_Mo_isBeyond 4 (some .boolean) 3 := ⟨inGW (i := 894) (by decide +kernel) (by decide +kernel), ii_Mo, by decide +kernel, by decide +kernel⟩
theorem ks_Mo_isBeyond : Cond.static y_Mo_isBeyond ∈ GW := inGW (i := 893) (by decide +kernel) (by decide +kernel)
abbrev c_Mo_copy : ByteArray := prog_14_method_68_code
def y_Mo_copy : MethodName := ⟨"LastJarsModel", "copy", "(IIIII)I"⟩
theorem k_Mo_copy : YI y_Mo_copy c_Mo_copy 7 (some .int) 5 := ⟨inGW (i := 1138) (by decide +kernel) (by decide +kernel), ii_Mo, by decide +kernel, by decide +kernel⟩
theorem ki_Mo_copy : Cond.instanceMethod y_Mo_copy ∈ GW := inGW (i := 1136) (by decide +kernel) (by decide +kernel)
theorem kv_Mo_copy : Cond.selects "LastJarsModel" y_Mo_copy y_Mo_copy ∈ GW := inGW (i := 1137) (by decide +kernel) (by decide +kernel)
abbrev c_Mo_traced : ByteArray := prog_14_method_69_code
def y_Mo_traced : MethodName := ⟨"LastJarsModel", "traced", "(I)V"⟩
theorem k_Mo_traced : YI y_Mo_traced c_Mo_traced 2 none 1 := ⟨inGW (i := 1146) (by decide +kernel) (by decide +kernel), ii_Mo, by decide +kernel, by decide +kernel⟩
theorem ki_Mo_traced : Cond.instanceMethod y_Mo_traced ∈ GW := inGW (i := 1145) (by decide +kernel) (by decide +kernel)
theorem kv_Mo_traced : Cond.selects "LastJarsModel" y_Mo_traced y_Mo_traced ∈ GW := inGW (i := 49) (by decide +kernel) (by decide +kernel)
abbrev c_Mo_tell : ByteArray := prog_14_method_70_code
def y_Mo_tell : MethodName := ⟨"LastJarsModel", "tell", "(I)I"⟩
theorem k_Mo_tell : YI y_Mo_tell c_Mo_tell 4 (some .int) 1 := ⟨inGW (i := 1142) (by decide +kernel) (by decide +kernel), ii_Mo, by decide +kernel, by decide +kernel⟩
theorem ki_Mo_tell : Cond.instanceMethod y_Mo_tell ∈ GW := inGW (i := 1140) (by decide +kernel) (by decide +kernel)
theorem kv_Mo_tell : Cond.selects "LastJarsModel" y_Mo_tell y_Mo_tell ∈ GW := inGW (i := 1141) (by decide +kernel) (by decide +kernel)
abbrev c_Mo_sniff : ByteArray := prog_14_method_71_code
def y_Mo_sniff : MethodName := ⟨"LastJarsModel", "sniff", "(I)I"⟩
theorem k_Mo_sniff : YI y_Mo_sniff c_Mo_sniff 2 (some .int) 1 := ⟨inGW (i := 1150) (by decide +kernel) (by decide +kernel), ii_Mo, by decide +kernel, by decide +kernel⟩
theorem ki_Mo_sniff : Cond.instanceMethod y_Mo_sniff ∈ GW := inGW (i := 1148) (by decide +kernel) (by decide +kernel)
theorem kv_Mo_sniff : Cond.selects "LastJarsModel" y_Mo_sniff y_Mo_sniff ∈ GW := inGW (i := 1149) (by decide +kernel) (by decide +kernel)
abbrev c_Mo_as : ByteArray := prog_14_method_72_code
def y_Mo_as : MethodName := ⟨"LastJarsModel", "as", "(II)I"⟩
theorem k_Mo_as : YI y_Mo_as c_Mo_as 3 (some .int) 2 := ⟨inGW (i := 1154) (by decide +kernel) (by decide +kernel), ii_Mo, by decide +kernel, by decide +kernel⟩
theorem ki_Mo_as : Cond.instanceMethod y_Mo_as ∈ GW := inGW (i := 1152) (by decide +kernel) (by decide +kernel)
theorem kv_Mo_as : Cond.selects "LastJarsModel" y_Mo_as y_Mo_as ∈ GW := inGW (i := 1153) (by decide +kernel) (by decide +kernel)
abbrev c_Mo_trace : ByteArray := prog_14_method_73_code
def y_Mo_trace : MethodName := ⟨"LastJarsModel", "trace", "()I"⟩
theorem k_Mo_trace : YI y_Mo_trace c_Mo_trace 1 (some .int) 0 := ⟨inGW (i := 1158) (by decide +kernel) (by decide +kernel), ii_Mo, by decide +kernel, by decide +kernel⟩
theorem ki_Mo_trace : Cond.instanceMethod y_Mo_trace ∈ GW := inGW (i := 1156) (by decide +kernel) (by decide +kernel)
theorem kv_Mo_trace : Cond.selects "LastJarsModel" y_Mo_trace y_Mo_trace ∈ GW := inGW (i := 1157) (by decide +kernel) (by decide +kernel)
abbrev c_Mo_fault : ByteArray := prog_14_method_74_code
def y_Mo_fault : MethodName := ⟨"LastJarsModel", "fault", "()I"⟩
theorem k_Mo_fault : YI y_Mo_fault c_Mo_fault 1 (some .int) 0 := ⟨inGW (i := 1162) (by decide +kernel) (by decide +kernel), ii_Mo, by decide +kernel, by decide +kernel⟩
theorem ki_Mo_fault : Cond.instanceMethod y_Mo_fault ∈ GW := inGW (i := 1160) (by decide +kernel) (by decide +kernel)
theorem kv_Mo_fault : Cond.selects "LastJarsModel" y_Mo_fault y_Mo_fault ∈ GW := inGW (i := 1161) (by decide +kernel) (by decide +kernel)
abbrev c_Mo_allHalves : ByteArray := prog_14_method_75_code
def y_Mo_allHalves : MethodName := ⟨"LastJarsModel", "allHalves", "()I"⟩
theorem k_Mo_allHalves : YI y_Mo_allHalves c_Mo_allHalves 3 (some .int) 0 := ⟨inGW (i := 1170) (by decide +kernel) (by decide +kernel), ii_Mo, by decide +kernel, by decide +kernel⟩
theorem ki_Mo_allHalves : Cond.instanceMethod y_Mo_allHalves ∈ GW := inGW (i := 1169) (by decide +kernel) (by decide +kernel)
theorem kv_Mo_allHalves : Cond.selects "LastJarsModel" y_Mo_allHalves y_Mo_allHalves ∈ GW := inGW (i := 50) (by decide +kernel) (by decide +kernel)
abbrev c_Mo_many : ByteArray := prog_14_method_76_code
def y_Mo_many : MethodName := ⟨"LastJarsModel", "many", "(I)I"⟩
theorem k_Mo_many : YI y_Mo_many c_Mo_many 2 (some .int) 1 := ⟨inGW (i := 1166) (by decide +kernel) (by decide +kernel), ii_Mo, by decide +kernel, by decide +kernel⟩
theorem ki_Mo_many : Cond.instanceMethod y_Mo_many ∈ GW := inGW (i := 1164) (by decide +kernel) (by decide +kernel)
theorem kv_Mo_many : Cond.selects "LastJarsModel" y_Mo_many y_Mo_many ∈ GW := inGW (i := 1165) (by decide +kernel) (by decide +kernel)
abbrev c_jI_bitCount : ByteArray := prog_15_method_49_code
def y_jI_bitCount : MethodName := ⟨"java/lang/Integer", "bitCount", "(I)I"⟩
theorem k_jI_bitCount : YI y_jI_bitCount c_jI_bitCount 1 (some .int) 1 := ⟨inGW (i := 536) (by decide +kernel) (by decide +kernel), ii_jI, by decide +kernel, by decide +kernel⟩
theorem ks_jI_bitCount : Cond.static y_jI_bitCount ∈ GW := inGW (i := 535) (by decide +kernel) (by decide +kernel)
abbrev c_jA_fill : ByteArray := prog_18_method_103_code
def y_jA_fill : MethodName := ⟨"java/util/Arrays", "fill", "([II)V"⟩
theorem k_jA_fill : YI y_jA_fill c_jA_fill 4 none 2 := ⟨inGW (i := 669) (by decide +kernel) (by decide +kernel), ii_jA, by decide +kernel, by decide +kernel⟩
theorem ks_jA_fill : Cond.static y_jA_fill ∈ GW := inGW (i := 668) (by decide +kernel) (by decide +kernel)
theorem ml_La_9 : Cond.methodLink "LastJarsLaw" 9 y_LJ_init ∈ GW := inGW (i := 71) (by decide +kernel) (by decide +kernel)
theorem ml_LJ_3 : Cond.methodLink "LastJars" 3 objectInit ∈ GW := inGW (i := 74) (by decide +kernel) (by decide +kernel)
theorem ml_LJ_11 : Cond.methodLink "LastJars" 11 y_Sp_init ∈ GW := inGW (i := 79) (by decide +kernel) (by decide +kernel)
theorem ml_Sp_3 : Cond.methodLink "LastJars$Shop" 3 objectInit ∈ GW := inGW (i := 82) (by decide +kernel) (by decide +kernel)
theorem ml_Sp_23 : Cond.methodLink "LastJars$Shop" 23 y_Ja_init ∈ GW := inGW (i := 88) (by decide +kernel) (by decide +kernel)
theorem ml_Ja_3 : Cond.methodLink "LastJars$Jar" 3 objectInit ∈ GW := inGW (i := 91) (by decide +kernel) (by decide +kernel)
theorem ml_Sp_24 : Cond.methodLink "LastJars$Shop" 24 y_De_init ∈ GW := inGW (i := 124) (by decide +kernel) (by decide +kernel)
theorem ml_De_3 : Cond.methodLink "LastJars$Decider" 3 objectInit ∈ GW := inGW (i := 127) (by decide +kernel) (by decide +kernel)
theorem ml_LJ_20 : Cond.methodLink "LastJars" 20 y_Sa_init ∈ GW := inGW (i := 182) (by decide +kernel) (by decide +kernel)
theorem ml_Sa_3 : Cond.methodLink "LastJars$Sales" 3 objectInit ∈ GW := inGW (i := 185) (by decide +kernel) (by decide +kernel)
theorem ml_LJ_27 : Cond.methodLink "LastJars" 27 y_Se_init ∈ GW := inGW (i := 205) (by decide +kernel) (by decide +kernel)
theorem ml_Se_3 : Cond.methodLink "LastJars$Service" 3 objectInit ∈ GW := inGW (i := 208) (by decide +kernel) (by decide +kernel)
theorem ml_LJ_34 : Cond.methodLink "LastJars" 34 y_Re_init ∈ GW := inGW (i := 218) (by decide +kernel) (by decide +kernel)
theorem ml_Re_3 : Cond.methodLink "LastJars$Readings" 3 objectInit ∈ GW := inGW (i := 221) (by decide +kernel) (by decide +kernel)
theorem ml_LJ_41 : Cond.methodLink "LastJars" 41 y_Te_init ∈ GW := inGW (i := 238) (by decide +kernel) (by decide +kernel)
theorem ml_Te_1 : Cond.methodLink "LastJars$Teller" 1 objectInit ∈ GW := inGW (i := 241) (by decide +kernel) (by decide +kernel)
theorem ml_LJ_56 : Cond.methodLink "LastJars" 56 y_Sh_init ∈ GW := inGW (i := 250) (by decide +kernel) (by decide +kernel)
theorem ml_Sh_3 : Cond.methodLink "LastJars$Sheet" 3 objectInit ∈ GW := inGW (i := 253) (by decide +kernel) (by decide +kernel)
theorem ml_La_13 : Cond.methodLink "LastJarsLaw" 13 y_LJ_store ∈ GW := inGW (i := 292) (by decide +kernel) (by decide +kernel)
theorem ml_LJ_57 : Cond.methodLink "LastJars" 57 y_LJ_sheetAt ∈ GW := inGW (i := 296) (by decide +kernel) (by decide +kernel)
theorem ml_LJ_65 : Cond.methodLink "LastJars" 65 y_LJ_isBelow ∈ GW := inGW (i := 300) (by decide +kernel) (by decide +kernel)
theorem ml_LJ_61 : Cond.methodLink "LastJars" 61 y_LJ_refused ∈ GW := inGW (i := 303) (by decide +kernel) (by decide +kernel)
theorem ml_LJ_69 : Cond.methodLink "LastJars" 69 y_Sh_faultOf ∈ GW := inGW (i := 307) (by decide +kernel) (by decide +kernel)
theorem ml_Sh_32 : Cond.methodLink "LastJars$Sheet" 32 y_Sh_hasCells ∈ GW := inGW (i := 311) (by decide +kernel) (by decide +kernel)
theorem ml_LJ_73 : Cond.methodLink "LastJars" 73 y_LJ_failed ∈ GW := inGW (i := 315) (by decide +kernel) (by decide +kernel)
theorem ml_LJ_76 : Cond.methodLink "LastJars" 76 y_Tx_firstFault ∈ GW := inGW (i := 319) (by decide +kernel) (by decide +kernel)
theorem ml_Tx_9 : Cond.methodLink "LastJars$Text" 9 y_Sh_at ∈ GW := inGW (i := 322) (by decide +kernel) (by decide +kernel)
theorem mn_Sh_36 : Cond.methodLinkNest "LastJars$Sheet" 36 y_LJ_isBelow "LastJars" ∈ lw_tbl := List.mem_of_getElem? (i := 326) (by decide +kernel)
theorem ml_Tx_15 : Cond.methodLink "LastJars$Text" 15 y_Tx_startsWith ∈ GW := inGW (i := 327) (by decide +kernel) (by decide +kernel)
theorem ml_Tx_21 : Cond.methodLink "LastJars$Text" 21 y_Tx_fitting ∈ GW := inGW (i := 330) (by decide +kernel) (by decide +kernel)
theorem ml_Tx_25 : Cond.methodLink "LastJars$Text" 25 y_Tx_kindOf ∈ GW := inGW (i := 333) (by decide +kernel) (by decide +kernel)
theorem mn_Tx_28 : Cond.methodLinkNest "LastJars$Text" 28 y_LJ_isBelow "LastJars" ∈ lw_tbl := List.mem_of_getElem? (i := 336) (by decide +kernel)
theorem ml_LJ_82 : Cond.methodLink "LastJars" 82 y_Tx_fill ∈ GW := inGW (i := 337) (by decide +kernel) (by decide +kernel)
theorem ml_Tx_45 : Cond.methodLink "LastJars$Text" 45 y_Tx_fillJar ∈ GW := inGW (i := 340) (by decide +kernel) (by decide +kernel)
theorem ml_Tx_53 : Cond.methodLink "LastJars$Text" 53 y_Tx_fillDecider ∈ GW := inGW (i := 343) (by decide +kernel) (by decide +kernel)
theorem ml_La_18 : Cond.methodLink "LastJarsLaw" 18 y_LJ_ofJar ∈ GW := inGW (i := 346) (by decide +kernel) (by decide +kernel)
theorem ml_LJ_92 : Cond.methodLink "LastJars" 92 y_Sp_jarAt ∈ GW := inGW (i := 350) (by decide +kernel) (by decide +kernel)
theorem mn_Sp_29 : Cond.methodLinkNest "LastJars$Shop" 29 y_LJ_isBelow "LastJars" ∈ lw_tbl := List.mem_of_getElem? (i := 354) (by decide +kernel)
theorem ml_LJ_96 : Cond.methodLink "LastJars" 96 y_Ja_part ∈ GW := inGW (i := 355) (by decide +kernel) (by decide +kernel)
theorem ml_Ja_27 : Cond.methodLink "LastJars$Jar" 27 y_Ja_greatest ∈ GW := inGW (i := 359) (by decide +kernel) (by decide +kernel)
theorem ml_Ja_44 : Cond.methodLink "LastJars$Jar" 44 y_Ja_markIn ∈ GW := inGW (i := 363) (by decide +kernel) (by decide +kernel)
theorem ml_Ja_31 : Cond.methodLink "LastJars$Jar" 31 y_Ja_leafMark ∈ GW := inGW (i := 367) (by decide +kernel) (by decide +kernel)
theorem ml_Ja_38 : Cond.methodLink "LastJars$Jar" 38 Lib.Math.max.name ∈ GW := inGW (i := 371) (by decide +kernel) (by decide +kernel)
theorem ml_Ja_35 : Cond.methodLink "LastJars$Jar" 35 y_Ja_twistMark ∈ GW := inGW (i := 374) (by decide +kernel) (by decide +kernel)
theorem ml_La_23 : Cond.methodLink "LastJarsLaw" 23 y_LJ_ofDecider ∈ GW := inGW (i := 378) (by decide +kernel) (by decide +kernel)
theorem ml_LJ_101 : Cond.methodLink "LastJars" 101 y_Sp_deciderAt ∈ GW := inGW (i := 382) (by decide +kernel) (by decide +kernel)
theorem ml_LJ_105 : Cond.methodLink "LastJars" 105 y_De_part ∈ GW := inGW (i := 386) (by decide +kernel) (by decide +kernel)
theorem ml_La_27 : Cond.methodLink "LastJarsLaw" 27 y_LJ_cure ∈ GW := inGW (i := 390) (by decide +kernel) (by decide +kernel)
theorem ml_LJ_108 : Cond.methodLink "LastJars" 108 y_LJ_changeJar ∈ GW := inGW (i := 394) (by decide +kernel) (by decide +kernel)
theorem ml_LJ_276 : Cond.methodLink "LastJars" 276 y_Ja_become ∈ GW := inGW (i := 398) (by decide +kernel) (by decide +kernel)
theorem ml_La_31 : Cond.methodLink "LastJarsLaw" 31 y_LJ_fetch ∈ GW := inGW (i := 402) (by decide +kernel) (by decide +kernel)
theorem ml_La_35 : Cond.methodLink "LastJarsLaw" 35 y_LJ_price ∈ GW := inGW (i := 406) (by decide +kernel) (by decide +kernel)
theorem ml_La_39 : Cond.methodLink "LastJarsLaw" 39 y_LJ_dread ∈ GW := inGW (i := 410) (by decide +kernel) (by decide +kernel)
theorem ml_LJ_111 : Cond.methodLink "LastJars" 111 y_LJ_changeDecider ∈ GW := inGW (i := 414) (by decide +kernel) (by decide +kernel)
theorem ml_LJ_279 : Cond.methodLink "LastJars" 279 y_De_become ∈ GW := inGW (i := 418) (by decide +kernel) (by decide +kernel)
theorem ml_La_43 : Cond.methodLink "LastJarsLaw" 43 y_LJ_pay ∈ GW := inGW (i := 422) (by decide +kernel) (by decide +kernel)
theorem ml_La_47 : Cond.methodLink "LastJarsLaw" 47 y_LJ_mark ∈ GW := inGW (i := 426) (by decide +kernel) (by decide +kernel)
theorem ml_LJ_115 : Cond.methodLink "LastJars" 115 y_Ja_markIn ∈ GW := inGW (i := 430) (by decide +kernel) (by decide +kernel)
theorem ml_La_51 : Cond.methodLink "LastJarsLaw" 51 y_LJ_blend ∈ GW := inGW (i := 431) (by decide +kernel) (by decide +kernel)
theorem ml_LJ_118 : Cond.methodLink "LastJars" 118 y_Sp_isMissing ∈ GW := inGW (i := 435) (by decide +kernel) (by decide +kernel)
theorem ml_LJ_122 : Cond.methodLink "LastJars" 122 y_Sp_isBlend ∈ GW := inGW (i := 439) (by decide +kernel) (by decide +kernel)
theorem ml_Sp_36 : Cond.methodLink "LastJars$Shop" 36 y_Sp_setsEnd ∈ GW := inGW (i := 443) (by decide +kernel) (by decide +kernel)
theorem ml_LJ_126 : Cond.methodLink "LastJars" 126 y_Sp_markOf ∈ GW := inGW (i := 447) (by decide +kernel) (by decide +kernel)
theorem ml_Sp_40 : Cond.methodLink "LastJars$Shop" 40 y_Ja_markIn ∈ GW := inGW (i := 451) (by decide +kernel) (by decide +kernel)
theorem ml_La_55 : Cond.methodLink "LastJarsLaw" 55 y_LJ_hold ∈ GW := inGW (i := 452) (by decide +kernel) (by decide +kernel)
theorem ml_LJ_130 : Cond.methodLink "LastJars" 130 y_Bl_longest ∈ GW := inGW (i := 456) (by decide +kernel) (by decide +kernel)
theorem ml_Bl_9 : Cond.methodLink "LastJars$Blends" 9 y_Sp_markOf ∈ GW := inGW (i := 459) (by decide +kernel) (by decide +kernel)
theorem ml_Bl_15 : Cond.methodLink "LastJars$Blends" 15 Lib.Math.max.name ∈ GW := inGW (i := 460) (by decide +kernel) (by decide +kernel)
theorem ml_La_59 : Cond.methodLink "LastJarsLaw" 59 y_LJ_sell ∈ GW := inGW (i := 461) (by decide +kernel) (by decide +kernel)
theorem ml_LJ_145 : Cond.methodLink "LastJars" 145 y_De_decidesBy ∈ GW := inGW (i := 465) (by decide +kernel) (by decide +kernel)
theorem ml_De_24 : Cond.methodLink "LastJars$Decider" 24 y_Ja_markIn ∈ GW := inGW (i := 469) (by decide +kernel) (by decide +kernel)
theorem ml_La_63 : Cond.methodLink "LastJarsLaw" 63 y_LJ_year ∈ GW := inGW (i := 470) (by decide +kernel) (by decide +kernel)
theorem ml_LJ_152 : Cond.methodLink "LastJars" 152 y_Sa_isTold ∈ GW := inGW (i := 474) (by decide +kernel) (by decide +kernel)
theorem mn_Sa_18 : Cond.methodLinkNest "LastJars$Sales" 18 y_LJ_isBelow "LastJars" ∈ lw_tbl := List.mem_of_getElem? (i := 477) (by decide +kernel)
theorem ml_LJ_155 : Cond.methodLink "LastJars" 155 y_Sa_areAllThere ∈ GW := inGW (i := 478) (by decide +kernel) (by decide +kernel)
theorem ml_Sa_22 : Cond.methodLink "LastJars$Sales" 22 y_Sa_buyerOf ∈ GW := inGW (i := 481) (by decide +kernel) (by decide +kernel)
theorem ml_Sa_30 : Cond.methodLink "LastJars$Sales" 30 y_Sh_at ∈ GW := inGW (i := 484) (by decide +kernel) (by decide +kernel)
theorem ml_Sa_36 : Cond.methodLink "LastJars$Sales" 36 y_Sp_deciderAt ∈ GW := inGW (i := 485) (by decide +kernel) (by decide +kernel)
theorem ml_Sa_26 : Cond.methodLink "LastJars$Sales" 26 y_Sa_jarOf ∈ GW := inGW (i := 486) (by decide +kernel) (by decide +kernel)
theorem ml_Sa_42 : Cond.methodLink "LastJars$Sales" 42 y_Sp_jarAt ∈ GW := inGW (i := 489) (by decide +kernel) (by decide +kernel)
theorem ml_LJ_159 : Cond.methodLink "LastJars" 159 y_Sa_goThrough ∈ GW := inGW (i := 490) (by decide +kernel) (by decide +kernel)
theorem ml_Sa_46 : Cond.methodLink "LastJars$Sales" 46 y_Sa_begin ∈ GW := inGW (i := 494) (by decide +kernel) (by decide +kernel)
theorem ml_Sa_65 : Cond.methodLink "LastJars$Sales" 65 y_De_decidesBy ∈ GW := inGW (i := 498) (by decide +kernel) (by decide +kernel)
theorem ml_LJ_163 : Cond.methodLink "LastJars" 163 y_Sa_answer ∈ GW := inGW (i := 499) (by decide +kernel) (by decide +kernel)
theorem ml_Sa_84 : Cond.methodLink "LastJars$Sales" 84 y_Sa_emptied ∈ GW := inGW (i := 503) (by decide +kernel) (by decide +kernel)
theorem ml_Sa_88 : Cond.methodLink "LastJars$Sales" 88 y_Sa_halvesThen ∈ GW := inGW (i := 507) (by decide +kernel) (by decide +kernel)
theorem ml_Sa_92 : Cond.methodLink "LastJars$Sales" 92 y_Sa_purseThen ∈ GW := inGW (i := 511) (by decide +kernel) (by decide +kernel)
theorem ml_La_68 : Cond.methodLink "LastJarsLaw" 68 y_LJ_mix ∈ GW := inGW (i := 515) (by decide +kernel) (by decide +kernel)
theorem ml_LJ_167 : Cond.methodLink "LastJars" 167 y_Bl_cheapest ∈ GW := inGW (i := 519) (by decide +kernel) (by decide +kernel)
theorem ml_Bl_20 : Cond.methodLink "LastJars$Blends" 20 y_Sp_stocked ∈ GW := inGW (i := 522) (by decide +kernel) (by decide +kernel)
theorem ml_Bl_24 : Cond.methodLink "LastJars$Blends" 24 y_Sp_setsEnd ∈ GW := inGW (i := 526) (by decide +kernel) (by decide +kernel)
theorem ml_Bl_27 : Cond.methodLink "LastJars$Blends" 27 y_Sp_penceOf ∈ GW := inGW (i := 527) (by decide +kernel) (by decide +kernel)
theorem ml_Bl_37 : Cond.methodLink "LastJars$Blends" 37 y_Bl_decides ∈ GW := inGW (i := 531) (by decide +kernel) (by decide +kernel)
theorem ml_Bl_43 : Cond.methodLink "LastJars$Blends" 43 y_jI_bitCount ∈ GW := inGW (i := 534) (by decide +kernel) (by decide +kernel)
theorem ml_LJ_171 : Cond.methodLink "LastJars" 171 y_Sp_penceOf ∈ GW := inGW (i := 540) (by decide +kernel) (by decide +kernel)
theorem ml_La_72 : Cond.methodLink "LastJarsLaw" 72 y_LJ_like ∈ GW := inGW (i := 541) (by decide +kernel) (by decide +kernel)
theorem ml_LJ_174 : Cond.methodLink "LastJars" 174 y_Bl_alike ∈ GW := inGW (i := 545) (by decide +kernel) (by decide +kernel)
theorem ml_Bl_54 : Cond.methodLink "LastJars$Blends" 54 y_Bl_isSameMarked ∈ GW := inGW (i := 548) (by decide +kernel) (by decide +kernel)
theorem ml_La_77 : Cond.methodLink "LastJarsLaw" 77 y_LJ_guess ∈ GW := inGW (i := 551) (by decide +kernel) (by decide +kernel)
theorem ml_LJ_177 : Cond.methodLink "LastJars" 177 y_Gu_jars ∈ GW := inGW (i := 555) (by decide +kernel) (by decide +kernel)
theorem ml_Gu_15 : Cond.methodLink "LastJars$Guess" 15 y_Gu_hasMarks ∈ GW := inGW (i := 558) (by decide +kernel) (by decide +kernel)
theorem ml_Gu_31 : Cond.methodLink "LastJars$Guess" 31 y_Sp_markOf ∈ GW := inGW (i := 561) (by decide +kernel) (by decide +kernel)
theorem ml_Gu_35 : Cond.methodLink "LastJars$Guess" 35 y_Sh_at ∈ GW := inGW (i := 562) (by decide +kernel) (by decide +kernel)
theorem ml_LJ_183 : Cond.methodLink "LastJars" 183 y_Gu_howManyPairs ∈ GW := inGW (i := 563) (by decide +kernel) (by decide +kernel)
theorem ml_Gu_21 : Cond.methodLink "LastJars$Guess" 21 y_Sp_setsEnd ∈ GW := inGW (i := 566) (by decide +kernel) (by decide +kernel)
theorem ml_Gu_25 : Cond.methodLink "LastJars$Guess" 25 y_jI_bitCount ∈ GW := inGW (i := 567) (by decide +kernel) (by decide +kernel)
theorem ml_LJ_186 : Cond.methodLink "LastJars" 186 y_Gu_leastPair ∈ GW := inGW (i := 568) (by decide +kernel) (by decide +kernel)
theorem ml_La_81 : Cond.methodLink "LastJarsLaw" 81 y_LJ_serve ∈ GW := inGW (i := 571) (by decide +kernel) (by decide +kernel)
theorem ml_LJ_189 : Cond.methodLink "LastJars" 189 y_Se_howMany ∈ GW := inGW (i := 575) (by decide +kernel) (by decide +kernel)
theorem ml_Se_18 : Cond.methodLink "LastJars$Service" 18 y_Se_begin ∈ GW := inGW (i := 579) (by decide +kernel) (by decide +kernel)
theorem ml_Se_22 : Cond.methodLink "LastJars$Service" 22 y_Se_most ∈ GW := inGW (i := 583) (by decide +kernel) (by decide +kernel)
theorem mn_Se_35 : Cond.methodLinkNest "LastJars$Service" 35 y_LJ_isBelow "LastJars" ∈ lw_tbl := List.mem_of_getElem? (i := 586) (by decide +kernel)
theorem ml_Se_67 : Cond.methodLink "LastJars$Service" 67 y_De_decidesBy ∈ GW := inGW (i := 587) (by decide +kernel) (by decide +kernel)
theorem ml_Se_71 : Cond.methodLink "LastJars$Service" 71 Lib.Math.max.name ∈ GW := inGW (i := 588) (by decide +kernel) (by decide +kernel)
theorem ml_LJ_193 : Cond.methodLink "LastJars" 193 y_Se_jarFor ∈ GW := inGW (i := 589) (by decide +kernel) (by decide +kernel)
theorem ml_Se_26 : Cond.methodLink "LastJars$Service" 26 y_Se_choose ∈ GW := inGW (i := 593) (by decide +kernel) (by decide +kernel)
theorem ml_Se_44 : Cond.methodLink "LastJars$Service" 44 y_Se_howMany ∈ GW := inGW (i := 597) (by decide +kernel) (by decide +kernel)
theorem ml_Se_77 : Cond.methodLink "LastJars$Service" 77 y_Se_firstChoice ∈ GW := inGW (i := 598) (by decide +kernel) (by decide +kernel)
theorem ml_Se_81 : Cond.methodLink "LastJars$Service" 81 y_Sp_jarAt ∈ GW := inGW (i := 602) (by decide +kernel) (by decide +kernel)
theorem ml_La_85 : Cond.methodLink "LastJarsLaw" 85 y_LJ_dear ∈ GW := inGW (i := 603) (by decide +kernel) (by decide +kernel)
theorem ml_LJ_196 : Cond.methodLink "LastJars" 196 y_Se_dearest ∈ GW := inGW (i := 607) (by decide +kernel) (by decide +kernel)
theorem ml_La_89 : Cond.methodLink "LastJarsLaw" 89 y_LJ_reading ∈ GW := inGW (i := 611) (by decide +kernel) (by decide +kernel)
theorem ml_LJ_200 : Cond.methodLink "LastJars" 200 y_Re_take ∈ GW := inGW (i := 615) (by decide +kernel) (by decide +kernel)
theorem ml_La_94 : Cond.methodLink "LastJarsLaw" 94 y_LJ_back ∈ GW := inGW (i := 619) (by decide +kernel) (by decide +kernel)
theorem ml_La_98 : Cond.methodLink "LastJarsLaw" 98 y_LJ_sures ∈ GW := inGW (i := 623) (by decide +kernel) (by decide +kernel)
theorem ml_LJ_203 : Cond.methodLink "LastJars" 203 y_LJ_possible ∈ GW := inGW (i := 627) (by decide +kernel) (by decide +kernel)
theorem ml_LJ_280 : Cond.methodLink "LastJars" 280 y_Re_areSo ∈ GW := inGW (i := 631) (by decide +kernel) (by decide +kernel)
theorem ml_Re_25 : Cond.methodLink "LastJars$Readings" 25 y_Sp_jarAt ∈ GW := inGW (i := 635) (by decide +kernel) (by decide +kernel)
theorem ml_Re_31 : Cond.methodLink "LastJars$Readings" 31 y_Ja_markIn ∈ GW := inGW (i := 636) (by decide +kernel) (by decide +kernel)
theorem ml_La_102 : Cond.methodLink "LastJarsLaw" 102 y_LJ_fades ∈ GW := inGW (i := 637) (by decide +kernel) (by decide +kernel)
theorem ml_La_106 : Cond.methodLink "LastJarsLaw" 106 y_LJ_kinds ∈ GW := inGW (i := 641) (by decide +kernel) (by decide +kernel)
theorem ml_La_110 : Cond.methodLink "LastJarsLaw" 110 y_LJ_odds ∈ GW := inGW (i := 645) (by decide +kernel) (by decide +kernel)
theorem ml_LJ_208 : Cond.methodLink "LastJars" 208 y_Bl_howManyStocked ∈ GW := inGW (i := 650) (by decide +kernel) (by decide +kernel)
theorem ml_LJ_211 : Cond.methodLink "LastJars" 211 y_Bl_howManyDeciding ∈ GW := inGW (i := 653) (by decide +kernel) (by decide +kernel)
theorem ml_LJ_214 : Cond.methodLink "LastJars" 214 y_Bl_greatestDivisor ∈ GW := inGW (i := 656) (by decide +kernel) (by decide +kernel)
theorem ml_La_115 : Cond.methodLink "LastJarsLaw" 115 y_LJ_sheet ∈ GW := inGW (i := 659) (by decide +kernel) (by decide +kernel)
theorem ml_LJ_217 : Cond.methodLink "LastJars" 217 y_Sh_begin ∈ GW := inGW (i := 663) (by decide +kernel) (by decide +kernel)
theorem ml_Sh_26 : Cond.methodLink "LastJars$Sheet" 26 y_jA_fill ∈ GW := inGW (i := 667) (by decide +kernel) (by decide +kernel)
theorem ml_La_119 : Cond.methodLink "LastJarsLaw" 119 y_LJ_lose ∈ GW := inGW (i := 670) (by decide +kernel) (by decide +kernel)
theorem ml_La_123 : Cond.methodLink "LastJarsLaw" 123 y_LJ_put ∈ GW := inGW (i := 674) (by decide +kernel) (by decide +kernel)
theorem ml_LJ_228 : Cond.methodLink "LastJars" 228 y_Sh_change ∈ GW := inGW (i := 678) (by decide +kernel) (by decide +kernel)
theorem ml_Sh_39 : Cond.methodLink "LastJars$Sheet" 39 y_Sh_cut ∈ GW := inGW (i := 682) (by decide +kernel) (by decide +kernel)
theorem ml_La_127 : Cond.methodLink "LastJarsLaw" 127 y_LJ_cell ∈ GW := inGW (i := 686) (by decide +kernel) (by decide +kernel)
theorem ml_LJ_231 : Cond.methodLink "LastJars" 231 y_Sh_at ∈ GW := inGW (i := 690) (by decide +kernel) (by decide +kernel)
theorem ml_La_132 : Cond.methodLink "LastJarsLaw" 132 y_LJ_copy ∈ GW := inGW (i := 691) (by decide +kernel) (by decide +kernel)
theorem ml_LJ_234 : Cond.methodLink "LastJars" 234 y_Sh_hasCells ∈ GW := inGW (i := 695) (by decide +kernel) (by decide +kernel)
theorem ml_LJ_241 : Cond.methodLink "LastJars" 241 arraycopyName ∈ GW := inGW (i := 696) (by decide +kernel) (by decide +kernel)
theorem ml_La_136 : Cond.methodLink "LastJarsLaw" 136 y_LJ_tell ∈ GW := inGW (i := 699) (by decide +kernel) (by decide +kernel)
theorem ml_LJ_250 : Cond.methodLink "LastJars" 250 y_Te_tellLeaf ∈ GW := inGW (i := 703) (by decide +kernel) (by decide +kernel)
theorem ml_Te_13 : Cond.methodLink "LastJars$Teller" 13 y_Te_leave ∈ GW := inGW (i := 707) (by decide +kernel) (by decide +kernel)
theorem ml_LJ_254 : Cond.methodLink "LastJars" 254 y_Te_tellTwist ∈ GW := inGW (i := 711) (by decide +kernel) (by decide +kernel)
theorem ml_Te_22 : Cond.methodLink "LastJars$Teller" 22 y_Te_tellLeaf ∈ GW := inGW (i := 715) (by decide +kernel) (by decide +kernel)
theorem ml_LJ_257 : Cond.methodLink "LastJars" 257 y_Te_tellPlug ∈ GW := inGW (i := 716) (by decide +kernel) (by decide +kernel)
theorem ml_Te_26 : Cond.methodLink "LastJars$Teller" 26 y_Te_tellTwist ∈ GW := inGW (i := 720) (by decide +kernel) (by decide +kernel)
theorem ml_La_140 : Cond.methodLink "LastJarsLaw" 140 y_LJ_sniff ∈ GW := inGW (i := 721) (by decide +kernel) (by decide +kernel)
theorem ml_LJ_260 : Cond.methodLink "LastJars" 260 y_Te_sniffPlug ∈ GW := inGW (i := 725) (by decide +kernel) (by decide +kernel)
theorem ml_LJ_264 : Cond.methodLink "LastJars" 264 y_Te_sniffLent ∈ GW := inGW (i := 729) (by decide +kernel) (by decide +kernel)
theorem ml_La_144 : Cond.methodLink "LastJarsLaw" 144 y_LJ_as ∈ GW := inGW (i := 733) (by decide +kernel) (by decide +kernel)
theorem ml_La_148 : Cond.methodLink "LastJarsLaw" 148 y_LJ_trace ∈ GW := inGW (i := 737) (by decide +kernel) (by decide +kernel)
theorem ml_La_153 : Cond.methodLink "LastJarsLaw" 153 y_LJ_fault ∈ GW := inGW (i := 741) (by decide +kernel) (by decide +kernel)
theorem ml_La_157 : Cond.methodLink "LastJarsLaw" 157 y_LJ_many ∈ GW := inGW (i := 745) (by decide +kernel) (by decide +kernel)
theorem ml_LJ_273 : Cond.methodLink "LastJars" 273 y_Sp_allHalves ∈ GW := inGW (i := 749) (by decide +kernel) (by decide +kernel)
theorem ml_La_12 : Cond.methodLink "LastJarsLaw" 12 y_Mo_init ∈ GW := inGW (i := 755) (by decide +kernel) (by decide +kernel)
theorem ml_Mo_1 : Cond.methodLink "LastJarsModel" 1 objectInit ∈ GW := inGW (i := 758) (by decide +kernel) (by decide +kernel)
theorem ml_La_17 : Cond.methodLink "LastJarsLaw" 17 y_Mo_store ∈ GW := inGW (i := 868) (by decide +kernel) (by decide +kernel)
theorem ml_Mo_145 : Cond.methodLink "LastJarsModel" 145 y_Mo_noSheet ∈ GW := inGW (i := 872) (by decide +kernel) (by decide +kernel)
theorem ml_Mo_104 : Cond.methodLink "LastJarsModel" 104 y_Mo_in ∈ GW := inGW (i := 876) (by decide +kernel) (by decide +kernel)
theorem ml_Mo_149 : Cond.methodLink "LastJarsModel" 149 y_Mo_refused ∈ GW := inGW (i := 879) (by decide +kernel) (by decide +kernel)
theorem ml_Mo_154 : Cond.methodLink "LastJarsModel" 154 y_Mo_cellsBarred ∈ GW := inGW (i := 884) (by decide +kernel) (by decide +kernel)
theorem ml_Mo_137 : Cond.methodLink "LastJarsModel" 137 y_Mo_failed ∈ GW := inGW (i := 888) (by decide +kernel) (by decide +kernel)
theorem ml_Mo_141 : Cond.methodLink "LastJarsModel" 141 y_Mo_isBeyond ∈ GW := inGW (i := 892) (by decide +kernel) (by decide +kernel)
theorem ml_Mo_158 : Cond.methodLink "LastJarsModel" 158 y_Mo_readsStore ∈ GW := inGW (i := 895) (by decide +kernel) (by decide +kernel)
theorem ml_Mo_114 : Cond.methodLink "LastJarsModel" 114 y_Mo_codeAt ∈ GW := inGW (i := 899) (by decide +kernel) (by decide +kernel)
theorem ml_Mo_130 : Cond.methodLink "LastJarsModel" 130 y_Mo_readsJar ∈ GW := inGW (i := 903) (by decide +kernel) (by decide +kernel)
theorem ml_Mo_123 : Cond.methodLink "LastJarsModel" 123 y_Mo_figure ∈ GW := inGW (i := 907) (by decide +kernel) (by decide +kernel)
theorem ml_Mo_134 : Cond.methodLink "LastJarsModel" 134 y_Mo_readsDecider ∈ GW := inGW (i := 912) (by decide +kernel) (by decide +kernel)
theorem ml_La_22 : Cond.methodLink "LastJarsLaw" 22 y_Mo_ofJar ∈ GW := inGW (i := 916) (by decide +kernel) (by decide +kernel)
theorem ml_Mo_170 : Cond.methodLink "LastJarsModel" 170 y_Mo_noJar ∈ GW := inGW (i := 920) (by decide +kernel) (by decide +kernel)
theorem ml_Mo_173 : Cond.methodLink "LastJarsModel" 173 y_Mo_greatestMark ∈ GW := inGW (i := 924) (by decide +kernel) (by decide +kernel)
theorem ml_Mo_167 : Cond.methodLink "LastJarsModel" 167 y_Mo_markOf ∈ GW := inGW (i := 928) (by decide +kernel) (by decide +kernel)
theorem ml_Mo_164 : Cond.methodLink "LastJarsModel" 164 y_Mo_leafMark ∈ GW := inGW (i := 932) (by decide +kernel) (by decide +kernel)
theorem ml_La_26 : Cond.methodLink "LastJarsLaw" 26 y_Mo_ofDecider ∈ GW := inGW (i := 936) (by decide +kernel) (by decide +kernel)
theorem ml_Mo_176 : Cond.methodLink "LastJarsModel" 176 y_Mo_noDecider ∈ GW := inGW (i := 940) (by decide +kernel) (by decide +kernel)
theorem ml_La_30 : Cond.methodLink "LastJarsLaw" 30 y_Mo_cure ∈ GW := inGW (i := 944) (by decide +kernel) (by decide +kernel)
theorem ml_La_34 : Cond.methodLink "LastJarsLaw" 34 y_Mo_fetch ∈ GW := inGW (i := 948) (by decide +kernel) (by decide +kernel)
theorem ml_La_38 : Cond.methodLink "LastJarsLaw" 38 y_Mo_price ∈ GW := inGW (i := 952) (by decide +kernel) (by decide +kernel)
theorem ml_La_42 : Cond.methodLink "LastJarsLaw" 42 y_Mo_dread ∈ GW := inGW (i := 956) (by decide +kernel) (by decide +kernel)
theorem ml_La_46 : Cond.methodLink "LastJarsLaw" 46 y_Mo_pay ∈ GW := inGW (i := 960) (by decide +kernel) (by decide +kernel)
theorem ml_La_50 : Cond.methodLink "LastJarsLaw" 50 y_Mo_mark ∈ GW := inGW (i := 965) (by decide +kernel) (by decide +kernel)
theorem ml_La_54 : Cond.methodLink "LastJarsLaw" 54 y_Mo_blend ∈ GW := inGW (i := 969) (by decide +kernel) (by decide +kernel)
theorem ml_Mo_187 : Cond.methodLink "LastJarsModel" 187 y_Mo_noBlend ∈ GW := inGW (i := 973) (by decide +kernel) (by decide +kernel)
theorem ml_Mo_190 : Cond.methodLink "LastJarsModel" 190 y_Mo_blendOf ∈ GW := inGW (i := 977) (by decide +kernel) (by decide +kernel)
theorem ml_Mo_181 : Cond.methodLink "LastJarsModel" 181 y_Mo_isIn ∈ GW := inGW (i := 981) (by decide +kernel) (by decide +kernel)
theorem ml_Mo_184 : Cond.methodLink "LastJarsModel" 184 y_Mo_bits ∈ GW := inGW (i := 984) (by decide +kernel) (by decide +kernel)
theorem ml_La_58 : Cond.methodLink "LastJarsLaw" 58 y_Mo_hold ∈ GW := inGW (i := 987) (by decide +kernel) (by decide +kernel)
theorem ml_La_62 : Cond.methodLink "LastJarsLaw" 62 y_Mo_sell ∈ GW := inGW (i := 991) (by decide +kernel) (by decide +kernel)
theorem ml_Mo_196 : Cond.methodLink "LastJarsModel" 196 y_Mo_canSell ∈ GW := inGW (i := 995) (by decide +kernel) (by decide +kernel)
theorem ml_Mo_199 : Cond.methodLink "LastJarsModel" 199 y_Mo_sold ∈ GW := inGW (i := 999) (by decide +kernel) (by decide +kernel)
theorem ml_Mo_193 : Cond.methodLink "LastJarsModel" 193 y_Mo_decides ∈ GW := inGW (i := 1003) (by decide +kernel) (by decide +kernel)
theorem ml_La_67 : Cond.methodLink "LastJarsLaw" 67 y_Mo_year ∈ GW := inGW (i := 1007) (by decide +kernel) (by decide +kernel)
theorem ml_Mo_212 : Cond.methodLink "LastJarsModel" 212 y_Mo_arePairs ∈ GW := inGW (i := 1015) (by decide +kernel) (by decide +kernel)
theorem ml_Mo_215 : Cond.methodLink "LastJarsModel" 215 y_Mo_yearBy ∈ GW := inGW (i := 1019) (by decide +kernel) (by decide +kernel)
theorem ml_La_71 : Cond.methodLink "LastJarsLaw" 71 y_Mo_mix ∈ GW := inGW (i := 1023) (by decide +kernel) (by decide +kernel)
theorem ml_Mo_221 : Cond.methodLink "LastJarsModel" 221 y_Mo_leftNow ∈ GW := inGW (i := 1027) (by decide +kernel) (by decide +kernel)
theorem ml_Mo_218 : Cond.methodLink "LastJarsModel" 218 y_Mo_pricesOf ∈ GW := inGW (i := 1031) (by decide +kernel) (by decide +kernel)
theorem ml_Mo_225 : Cond.methodLink "LastJarsModel" 225 y_Mo_isRather ∈ GW := inGW (i := 1035) (by decide +kernel) (by decide +kernel)
theorem ml_La_76 : Cond.methodLink "LastJarsLaw" 76 y_Mo_like ∈ GW := inGW (i := 1039) (by decide +kernel) (by decide +kernel)
theorem ml_Mo_228 : Cond.methodLink "LastJarsModel" 228 y_Mo_areLike ∈ GW := inGW (i := 1043) (by decide +kernel) (by decide +kernel)
theorem ml_La_80 : Cond.methodLink "LastJarsLaw" 80 y_Mo_guess ∈ GW := inGW (i := 1047) (by decide +kernel) (by decide +kernel)
theorem ml_Mo_235 : Cond.methodLink "LastJarsModel" 235 y_Mo_guessBy ∈ GW := inGW (i := 1051) (by decide +kernel) (by decide +kernel)
theorem ml_Mo_231 : Cond.methodLink "LastJarsModel" 231 y_Mo_isTold ∈ GW := inGW (i := 1055) (by decide +kernel) (by decide +kernel)
theorem ml_La_84 : Cond.methodLink "LastJarsLaw" 84 y_Mo_serve ∈ GW := inGW (i := 1059) (by decide +kernel) (by decide +kernel)
theorem ml_Mo_246 : Cond.methodLink "LastJarsModel" 246 y_Mo_mostServed ∈ GW := inGW (i := 1064) (by decide +kernel) (by decide +kernel)
theorem ml_Mo_238 : Cond.methodLink "LastJarsModel" 238 y_Mo_decideBy ∈ GW := inGW (i := 1068) (by decide +kernel) (by decide +kernel)
theorem ml_La_88 : Cond.methodLink "LastJarsLaw" 88 y_Mo_dear ∈ GW := inGW (i := 1072) (by decide +kernel) (by decide +kernel)
theorem ml_La_93 : Cond.methodLink "LastJarsLaw" 93 y_Mo_reading ∈ GW := inGW (i := 1076) (by decide +kernel) (by decide +kernel)
theorem ml_La_97 : Cond.methodLink "LastJarsLaw" 97 y_Mo_back ∈ GW := inGW (i := 1080) (by decide +kernel) (by decide +kernel)
theorem ml_La_101 : Cond.methodLink "LastJarsLaw" 101 y_Mo_sures ∈ GW := inGW (i := 1084) (by decide +kernel) (by decide +kernel)
theorem ml_Mo_249 : Cond.methodLink "LastJarsModel" 249 y_Mo_areSo ∈ GW := inGW (i := 1088) (by decide +kernel) (by decide +kernel)
theorem ml_La_105 : Cond.methodLink "LastJarsLaw" 105 y_Mo_fades ∈ GW := inGW (i := 1092) (by decide +kernel) (by decide +kernel)
theorem ml_La_109 : Cond.methodLink "LastJarsLaw" 109 y_Mo_kinds ∈ GW := inGW (i := 1096) (by decide +kernel) (by decide +kernel)
theorem ml_La_114 : Cond.methodLink "LastJarsLaw" 114 y_Mo_odds ∈ GW := inGW (i := 1100) (by decide +kernel) (by decide +kernel)
theorem ml_Mo_97 : Cond.methodLink "LastJarsModel" 97 y_Mo_lost ∈ GW := inGW (i := 1104) (by decide +kernel) (by decide +kernel)
theorem ml_Mo_253 : Cond.methodLink "LastJarsModel" 253 y_Mo_share ∈ GW := inGW (i := 1108) (by decide +kernel) (by decide +kernel)
theorem ml_La_118 : Cond.methodLink "LastJarsLaw" 118 y_Mo_sheet ∈ GW := inGW (i := 1111) (by decide +kernel) (by decide +kernel)
theorem ml_La_122 : Cond.methodLink "LastJarsLaw" 122 y_Mo_lose ∈ GW := inGW (i := 1115) (by decide +kernel) (by decide +kernel)
theorem ml_La_126 : Cond.methodLink "LastJarsLaw" 126 y_Mo_put ∈ GW := inGW (i := 1119) (by decide +kernel) (by decide +kernel)
theorem ml_Mo_257 : Cond.methodLink "LastJarsModel" 257 y_Mo_noCell ∈ GW := inGW (i := 1123) (by decide +kernel) (by decide +kernel)
theorem ml_La_131 : Cond.methodLink "LastJarsLaw" 131 y_Mo_cell ∈ GW := inGW (i := 1127) (by decide +kernel) (by decide +kernel)
theorem ml_Mo_260 : Cond.methodLink "LastJarsModel" 260 y_Mo_failedLong ∈ GW := inGW (i := 1131) (by decide +kernel) (by decide +kernel)
theorem ml_La_135 : Cond.methodLink "LastJarsLaw" 135 y_Mo_copy ∈ GW := inGW (i := 1135) (by decide +kernel) (by decide +kernel)
theorem ml_La_139 : Cond.methodLink "LastJarsLaw" 139 y_Mo_tell ∈ GW := inGW (i := 1139) (by decide +kernel) (by decide +kernel)
theorem ml_Mo_267 : Cond.methodLink "LastJarsModel" 267 y_Mo_traced ∈ GW := inGW (i := 1143) (by decide +kernel) (by decide +kernel)
theorem ml_La_143 : Cond.methodLink "LastJarsLaw" 143 y_Mo_sniff ∈ GW := inGW (i := 1147) (by decide +kernel) (by decide +kernel)
theorem ml_La_147 : Cond.methodLink "LastJarsLaw" 147 y_Mo_as ∈ GW := inGW (i := 1151) (by decide +kernel) (by decide +kernel)
theorem ml_La_152 : Cond.methodLink "LastJarsLaw" 152 y_Mo_trace ∈ GW := inGW (i := 1155) (by decide +kernel) (by decide +kernel)
theorem ml_La_156 : Cond.methodLink "LastJarsLaw" 156 y_Mo_fault ∈ GW := inGW (i := 1159) (by decide +kernel) (by decide +kernel)
theorem ml_La_160 : Cond.methodLink "LastJarsLaw" 160 y_Mo_many ∈ GW := inGW (i := 1163) (by decide +kernel) (by decide +kernel)
theorem ml_Mo_271 : Cond.methodLink "LastJarsModel" 271 y_Mo_allHalves ∈ GW := inGW (i := 1167) (by decide +kernel) (by decide +kernel)
theorem ks_max : Cond.static Lib.Math.max.name ∈ GW := inGW (i := 372) (by decide +kernel) (by decide +kernel)
theorem k_max : Cond.code Lib.Math.max.name Lib.Math.max.code 2 (some .int) ∈ GW := inGW (i := 373) (by decide +kernel) (by decide +kernel)
theorem ki_obj : Cond.instanceMethod objectInit ∈ GW := inGW (i := 75) (by decide +kernel) (by decide +kernel)
theorem k_obj : Cond.code objectInit ⟨#[0xb1]⟩ 1 none ∈ GW := inGW (i := 76) (by decide +kernel) (by decide +kernel)
theorem kn_acp : Cond.native arraycopyName ∈ GW := inGW (i := 698) (by decide +kernel) (by decide +kernel)
theorem ks_acp : Cond.static arraycopyName ∈ GW := inGW (i := 697) (by decide +kernel) (by decide +kernel)
end
section
/-! The abstract frame: ints, longs and numbered cells; a walk over them (VW) that stands over the machine's (W). -/
abbrev AV : Type := Int32 ⊕ (Int64 ⊕ Nat)
abbrev vI (x : Int32) : AV := .inl x
abbrev vL (x : Int64) : AV := .inr (.inl x)
abbrev vR (r : Nat) : AV := .inr (.inr r)
abbrev MM : Type := Nat → Nat → Int32
abbrev NN : Type := Nat → Nat → Nat
abbrev GG : Type := List (Nat × Nat) × NN × MM
def cvR (z b r : Nat) : Value := if r = 0 then .null else if r = 1 then .ref b else .ref (z + (r - 2))
def cv (z b : Nat) (v : AV) : Value := match v with
  | .inl x => .int x
  | .inr (.inl x) => .long x
  | .inr (.inr r) => cvR z b r
def catA (v : AV) : Nat := match v with
  | .inr (.inl _) => 2
  | _ => 1
theorem cvR_or (z b r : Nat) : cvR z b r = .null ∨ ∃ a, cvR z b r = .ref a := by
  unfold cvR
  split
  · exact Or.inl rfl
  · split
    · exact Or.inr ⟨_, rfl⟩
    · exact Or.inr ⟨_, rfl⟩
theorem cvR_cat (z b r : Nat) : (cvR z b r).category = 1 := by
  rcases cvR_or z b r with h | ⟨a, h⟩ <;> rw [h] <;> rfl
theorem cv_cat (z b : Nat) (v : AV) : (cv z b v).category = catA v := by
  rcases v with x | x | r
  · rfl
  · rfl
  · exact cvR_cat z b r
theorem cvR_2 {z b r : Nat} (h : 2 ≤ r) : cvR z b r = .ref (z + (r - 2)) := by
  unfold cvR
  rw [if_neg (by omega), if_neg (by omega)]
theorem cvR_ne {z b r : Nat} (h : ¬ r = 0) : ∃ a, cvR z b r = .ref a := by
  unfold cvR
  rw [if_neg h]
  split
  · exact ⟨_, rfl⟩
  · exact ⟨_, rfl⟩
-- cells
def cN (ci : Nat) : Nat := match CL[ci]? with
  | some q => q.2.2
  | none => 0
def rsT (ci k : Nat) : Bool := (tyF ci k).isReference
def shS (s : Nat × Nat) : Nat := if s.1 = 0 then cN s.2 else s.2
def gC (G : GG) : Nat := G.1.length
def gS (G : GG) : Nat := (G.1.map shS).sum
def upM {α : Type} (M : Nat → Nat → α) (r k : Nat) (x : α) : Nat → Nat → α := fun a i => if a = r ∧ i = k then x else M a i
def sI (G : GG) (r k : Nat) (x : Int32) : GG := (G.1, G.2.1, upM G.2.2 r k x)
def sR (G : GG) (r k : Nat) (x : Nat) : GG := (G.1, upM G.2.1 r k x, G.2.2)
def pO (G : GG) (s : Nat × Nat) : GG := (G.1 ++ [s], (fun a i => if a = G.1.length then 0 else G.2.1 a i), fun a i => if a = G.1.length then 0 else G.2.2 a i)
def sV (z b : Nat) (G : GG) (ci r k : Nat) : Value := if rsT ci k = true then cvR z b (G.2.1 r k) else .int (G.2.2 r k)
def cA (z b : Nat) (D : va_G) (cy : Nat → ClassId) (G : GG) (r : Nat) (s : Nat × Nat) (H : Heap) : Prop :=
  (s.1 = 0 → ∃ q : vw_C, CL[s.2]? = some q ∧ t_OB (z + (r - 2)) (D.1 s.2) q.2.2 (D.2 s.2) H (sV z b G s.2 r)) ∧
  (s.1 = 1 → H[z + (r - 2)]? = some (arrV (cy 0) s.2 (fun j => .int (G.2.2 r j)))) ∧
  (2 ≤ s.1 → H[z + (r - 2)]? = some (arrV (cy (s.1 - 1)) s.2 (fun j => cvR z b (G.2.1 r j))))
def IH (z b : Nat) (D : va_G) (cy : Nat → ClassId) (G : GG) (H : Heap) : Prop :=
  H.size + 2 = z + G.1.length ∧ 2 ≤ G.1.length ∧ ∀ (r : Nat) (s : Nat × Nat), 2 ≤ r → G.1[r]? = some s → cA z b D cy G r s H
def NWs : List (String × Nat) := [("LastJars$Sheet", 36), ("LastJars$Text", 28), ("LastJars$Shop", 29), ("LastJars$Sales", 18), ("LastJars$Service", 35)]
def cNm (c : Nat) : String := match CL[c]? with
  | some q => q.1
  | none => ""
def KK (D : va_G) (cy : Nat → ClassId) (U : State) : Prop :=
  va_K D CL [] U ∧ ArrOfT U (cy 0) .int ∧ va_RA U (cy 0) .int ∧
  (∀ c, (c = 0 ∨ c = 1 ∨ c = 5) → ArrOfT U (cy (c + 1)) (.object (cNm c)) ∧ va_RA U (cy (c + 1)) (.object (cNm c)) ∧ va_AO (cNm c) U) ∧
  (∀ q ∈ NWs, va_Nw (.methodLinkNest q.1 q.2 y_LJ_isBelow "LastJars") U)
theorem KK.warm {D : va_G} {cy : Nat → ClassId} {s U : State} (h : KK D cy s) (hW : s.WarmedH U.vm) : KK D cy U :=
  ⟨h.1.moved hW.alike, arrOfT_moved hW.alike h.2.1, h.2.2.1.moved hW.alike, fun c hc => ⟨arrOfT_moved hW.alike (h.2.2.2.1 c hc).1, (h.2.2.2.1 c hc).2.1.moved hW.alike, (h.2.2.2.1 c hc).2.2.moved hW.alike⟩, fun q hq => va_Nw.warmM hW (h.2.2.2.2 q hq)⟩
theorem KK.same {D : va_G} {cy : Nat → ClassId} {s U : State} (h : KK D cy s) (e : s.vm = U.vm) : KK D cy U := by
  have ha : s.vm.Alike U.vm := by rw [e]; exact Vm.Alike.refl _
  exact ⟨h.1.moved ha, arrOfT_moved ha h.2.1, h.2.2.1.moved ha, fun c hc => ⟨arrOfT_moved ha (h.2.2.2.1 c hc).1, (h.2.2.2.1 c hc).2.1.moved ha, (h.2.2.2.1 c hc).2.2.moved ha⟩, fun q hq => va_Nw.same rfl e (h.2.2.2.2 q hq)⟩
-- locals
def asc (z b : Nat) : Nat → List (Option AV) → List (Nat × Value)
  | _, [] => []
  | i, none :: t => asc z b (i + 1) t
  | i, some v :: t => (i, cv z b v) :: asc z b (i + 1) t
theorem asc_mem {z b : Nat} : ∀ (lo : List (Option AV)) (i : Nat) (q : Nat × Value), q ∈ asc z b i lo ↔ ∃ k v, lo[k]? = some (some v) ∧ q = (i + k, cv z b v)
  | [], i, q => by simp [asc]
  | none :: t, i, q => by
    show q ∈ asc z b (i + 1) t ↔ _
    rw [asc_mem t (i + 1) q]
    constructor
    · rintro ⟨k, v, h1, h2⟩
      exact ⟨k + 1, v, by simpa using h1, by rw [h2]; congr 1; omega⟩
    · rintro ⟨k, v, h1, h2⟩
      cases k with
      | zero => simp at h1
      | succ k => exact ⟨k, v, by simpa using h1, by rw [h2]; congr 1; omega⟩
  | some w :: t, i, q => by
    show q ∈ (i, cv z b w) :: asc z b (i + 1) t ↔ _
    rw [List.mem_cons, asc_mem t (i + 1) q]
    constructor
    · rintro (h | ⟨k, v, h1, h2⟩)
      · exact ⟨0, w, by simp, by rw [h]; rfl⟩
      · exact ⟨k + 1, v, by simpa using h1, by rw [h2]; congr 1; omega⟩
    · rintro ⟨k, v, h1, h2⟩
      cases k with
      | zero =>
        simp at h1
        subst h1
        exact Or.inl h2
      | succ k => exact Or.inr ⟨k, v, by simpa using h1, by rw [h2]; congr 1; omega⟩
theorem lvh_mono {ls : Array Slot} {n : Nat} {l l' : List (Nat × Value)} (h : lv_has ls n l) (hs : ∀ q ∈ l', q ∈ l) : lv_has ls n l' := ⟨h.1, h.2.1, fun q hq => h.2.2 q (hs q hq)⟩
def LR (z b : Nat) (ls : Array Slot) (lo : List (Option AV)) : Prop := lv_has ls lo.length (asc z b 0 lo)
theorem LR.at {z b : Nat} {ls : Array Slot} {lo : List (Option AV)} (h : LR z b ls lo) {i : Nat} {v : AV} (hi : lo[i]? = some (some v)) : ls[i]? = some (.val (cv z b v)) :=
  h.2.2 (i, cv z b v) ((asc_mem lo 0 _).mpr ⟨i, v, hi, by simp⟩)
def kl (lo : List (Option AV)) (i : Nat) : List (Option AV) := match i with
  | 0 => lo
  | j + 1 => match lo[j]? with
    | some (some (.inr (.inl _))) => lo.set j none
    | _ => lo
def sto1 (lo : List (Option AV)) (i : Nat) (v : AV) : List (Option AV) := (kl lo i).set i (some v)
def sto2 (lo : List (Option AV)) (i : Nat) (v : AV) : List (Option AV) := ((kl lo i).set i (some v)).set (i + 1) none
theorem kl_len (lo : List (Option AV)) (i : Nat) : (kl lo i).length = lo.length := by
  unfold kl
  split
  · rfl
  · split <;> simp
theorem kl_at {lo : List (Option AV)} {i k : Nat} {v : AV} (h : (kl lo i)[k]? = some (some v)) : lo[k]? = some (some v) ∧ ¬ (k + 1 = i ∧ catA v = 2) := by
  unfold kl at h
  split at h
  · exact ⟨h, fun q => by omega⟩
  · rename_i j
    split at h
    · rename_i x hx
      by_cases hk : k = j
      · subst hk
        have hl := (List.getElem?_eq_some_iff.mp hx).1
        rw [List.getElem?_set_self hl] at h
        cases h
      · rw [List.getElem?_set_ne (Ne.symm hk)] at h
        exact ⟨h, fun q => by omega⟩
    · rename_i hx
      refine ⟨h, fun q => ?_⟩
      have hk : k = j := by omega
      subst hk
      rcases v with x | x | r
      · exact absurd q.2 (by simp [catA])
      · exact hx x h
      · exact absurd q.2 (by simp [catA])
theorem sto1_at {lo : List (Option AV)} {i k : Nat} {v w : AV} (hi : i < lo.length) (h : (sto1 lo i v)[k]? = some (some w)) : (k = i ∧ w = v) ∨ (k ≠ i ∧ lo[k]? = some (some w) ∧ ¬ (k + 1 = i ∧ catA w = 2)) := by
  unfold sto1 at h
  by_cases hk : k = i
  · subst hk
    rw [List.getElem?_set_self (by rw [kl_len]; exact hi)] at h
    cases h
    exact Or.inl ⟨rfl, rfl⟩
  · rw [List.getElem?_set_ne (Ne.symm hk)] at h
    exact Or.inr ⟨hk, kl_at h⟩
theorem sto2_at {lo : List (Option AV)} {i k : Nat} {v w : AV} (hi : i + 1 < lo.length) (h : (sto2 lo i v)[k]? = some (some w)) : (k = i ∧ w = v) ∨ (k ≠ i ∧ k ≠ i + 1 ∧ lo[k]? = some (some w) ∧ ¬ (k + 1 = i ∧ catA w = 2)) := by
  unfold sto2 at h
  by_cases hk : k = i + 1
  · subst hk
    rw [List.getElem?_set_self (by simp [kl_len]; exact hi)] at h
    cases h
  · rw [List.getElem?_set_ne (Ne.symm hk)] at h
    rcases sto1_at (v := v) (by omega) h with h | ⟨h1, h2⟩
    · exact Or.inl h
    · exact Or.inr ⟨h1, hk, h2⟩
theorem sto1_len (lo : List (Option AV)) (i : Nat) (v : AV) : (sto1 lo i v).length = lo.length := by simp [sto1, kl_len]
theorem sto2_len (lo : List (Option AV)) (i : Nat) (v : AV) : (sto2 lo i v).length = lo.length := by simp [sto2, kl_len]
theorem LR.sto1 {z b : Nat} {ls : Array Slot} {lo : List (Option AV)} {i : Nat} {v : AV} {x : Value} (hi : i < lo.length) (hx : cv z b v = x) (h : lv_has ls lo.length ((i, x) :: (asc z b 0 lo).filter (fun q => !(q.1 == i) && !(q.1 + 1 == i && q.2.category == 2)))) : LR z b ls (sto1 lo i v) := by
  unfold LR
  rw [sto1_len]
  refine lvh_mono h fun q hq => ?_
  obtain ⟨k, w, h1, h2⟩ := (asc_mem _ 0 q).mp hq
  rcases sto1_at hi h1 with ⟨e1, e2⟩ | ⟨e1, e2, e3⟩
  · subst e1; subst e2; subst hx
    exact List.mem_cons.mpr (Or.inl (by rw [h2]; simp))
  · refine List.mem_cons.mpr (Or.inr (List.mem_filter.mpr ⟨(asc_mem lo 0 q).mpr ⟨k, w, e2, h2⟩, ?_⟩))
    rw [h2]
    simp only [Nat.zero_add, cv_cat, Bool.and_eq_true, Bool.not_eq_true', beq_eq_false_iff_ne, ne_eq, Bool.and_eq_false_iff]
    refine ⟨e1, ?_⟩
    by_cases hk : k + 1 = i
    · exact Or.inr fun hc => e3 ⟨hk, hc⟩
    · exact Or.inl hk
theorem LR.sto2 {z b : Nat} {ls : Array Slot} {lo : List (Option AV)} {i : Nat} {v : AV} {x : Value} (hi : i + 1 < lo.length) (hx : cv z b v = x) (h : lv_has ls lo.length ((i, x) :: (asc z b 0 lo).filter (fun q => !(q.1 == i) && (!(q.1 == i + 1) && !(q.1 + 1 == i && q.2.category == 2))))) : LR z b ls (sto2 lo i v) := by
  unfold LR
  rw [sto2_len]
  refine lvh_mono h fun q hq => ?_
  obtain ⟨k, w, h1, h2⟩ := (asc_mem _ 0 q).mp hq
  rcases sto2_at hi h1 with ⟨e1, e2⟩ | ⟨e1, e1', e2, e3⟩
  · subst e1; subst e2; subst hx
    exact List.mem_cons.mpr (Or.inl (by rw [h2]; simp))
  · refine List.mem_cons.mpr (Or.inr (List.mem_filter.mpr ⟨(asc_mem lo 0 q).mpr ⟨k, w, e2, h2⟩, ?_⟩))
    rw [h2]
    simp only [Nat.zero_add, cv_cat, Bool.and_eq_true, Bool.not_eq_true', beq_eq_false_iff_ne, ne_eq, Bool.and_eq_false_iff]
    refine ⟨e1, e1', ?_⟩
    by_cases hk : k + 1 = i
    · exact Or.inr fun hc => e3 ⟨hk, hc⟩
    · exact Or.inl hk
/-- fewer locals known -/
theorem LR.less {z b : Nat} {ls : Array Slot} {lo lo' : List (Option AV)} (h : LR z b ls lo) (hl : lo'.length = lo.length) (hs : ∀ (k : Nat) (v : AV), lo'[k]? = some (some v) → lo[k]? = some (some v)) : LR z b ls lo' := by
  unfold LR
  rw [hl]
  refine lvh_mono h fun q hq => ?_
  obtain ⟨k, w, h1, h2⟩ := (asc_mem _ 0 q).mp hq
  exact (asc_mem lo 0 q).mpr ⟨k, w, hs k w h1, h2⟩
end
section
abbrev CX : Type := (Program × Launch × Env × Room × State × MethodId × Array Value × List Frame × Method × Code × (State → Prop)) × (Nat × Nat × Nat × Nat) × va_G × (Nat → ClassId)
def VW (X : CX) (pc : Nat) (lo : List (Option AV)) (st : List AV) (G : GG) : Prop := match X with
  | ((p, l, e, R, s, m, args, below, meth, c, Q), (z, b, n0, s0), D, cy) => ∀ (H : Heap) (locs : List Loc) (ls : Array Slot) (cells slots : Nat), IH z b D cy G H → (∀ q : Nat, q < z → H[q]? = s.heap[q]?) → (∀ q ∈ locs, z ≤ q.base) → cells + n0 = gC G → slots + s0 = gS G → LR z b ls lo → W p l e R s m args below meth c H locs cells slots Q (F0 m pc ls (st.map (cv z b)))
def CO (X : CX) (own : String) (cc : ByteArray) (nL d mc ms n1 s1 : Nat) : Prop := match X with
  | ((p, l, e, R, s, m, args, below, meth, c, Q), (z, b, n0, s0), D, cy) => p.tables.exec = Jvm.exec ∧ c.code = cc ∧ c.maxLocals = nL ∧ s.vm.findClass own = some m.cls ∧ (∀ w ∈ GW, w.before args s = true) ∧ KK D cy s ∧ meth.locks = false ∧ (d ≤ R.frames ∧ 40 * d ≤ R.locals ∧ mc ≤ R.cells ∧ ms ≤ R.slots) ∧ n0 = n1 ∧ s0 = s1 ∧ z ≤ s.heap.size
section ROWS
variable {X : CX} {own : String} {cc : ByteArray} {nL d mc ms n1 s1 : Nat} {pc : Nat} {lo : List (Option AV)} {st : List AV} {G : GG}
theorem VW.less {lo' : List (Option AV)} (hl : lo'.length = lo.length) (hs : ∀ (k : Nat) (v : AV), lo'[k]? = some (some v) → lo[k]? = some (some v)) (k : VW X pc lo' st G) : VW X pc lo st G := by
  obtain ⟨⟨p, l, e, R, s, m, args, below, meth, c, Q⟩, ⟨z, b, n0, s0⟩, D, cy⟩ := X
  intro H locs ls cells slots h1 h2 h3 h4 h5 h6
  exact k H locs ls cells slots h1 h2 h3 h4 h5 (h6.less hl hs)
theorem v_iconst (hX : CO X own cc nL d mc ms n1 s1) {n : Int} {v : Int32} (hv : Int32.ofInt n = v) (hd : decode cc pc = .ok (.iconst n, 1)) (k : VW X (pc + 1) lo (vI v :: st) G) : VW X pc lo st G := by
  obtain ⟨⟨p, l, e, R, s, m, args, below, meth, c, Q⟩, ⟨z, b, n0, s0⟩, D, cy⟩ := X
  obtain ⟨hx, hb, hml, hown, hts, hK, hlk, hR, e1, e2, hz⟩ := hX
  intro H locs ls cells slots h1 h2 h3 h4 h5 h6
  exact lv_iconst hx hb hd hv (k H locs ls cells slots h1 h2 h3 h4 h5 h6)
theorem v_bipush (hX : CO X own cc nL d mc ms n1 s1) {n : Int} {v : Int32} (hv : (Int8.ofInt n).toInt32 = v) (hd : decode cc pc = .ok (.bipush n, 2)) (k : VW X (pc + 2) lo (vI v :: st) G) : VW X pc lo st G := by
  obtain ⟨⟨p, l, e, R, s, m, args, below, meth, c, Q⟩, ⟨z, b, n0, s0⟩, D, cy⟩ := X
  obtain ⟨hx, hb, hml, hown, hts, hK, hlk, hR, e1, e2, hz⟩ := hX
  intro H locs ls cells slots h1 h2 h3 h4 h5 h6
  exact lv_bipush hx hb hd hv (k H locs ls cells slots h1 h2 h3 h4 h5 h6)
theorem v_sipush (hX : CO X own cc nL d mc ms n1 s1) {n : Int} {v : Int32} (hv : (Int16.ofInt n).toInt32 = v) (hd : decode cc pc = .ok (.sipush n, 3)) (k : VW X (pc + 3) lo (vI v :: st) G) : VW X pc lo st G := by
  obtain ⟨⟨p, l, e, R, s, m, args, below, meth, c, Q⟩, ⟨z, b, n0, s0⟩, D, cy⟩ := X
  obtain ⟨hx, hb, hml, hown, hts, hK, hlk, hR, e1, e2, hz⟩ := hX
  intro H locs ls cells slots h1 h2 h3 h4 h5 h6
  exact lv_sipush hx hb hd hv (k H locs ls cells slots h1 h2 h3 h4 h5 h6)
theorem v_lconst (hX : CO X own cc nL d mc ms n1 s1) {n : Fin 2} {v : Int64} (hv : Int64.ofNat (n : Nat) = v) (hd : decode cc pc = .ok (.lconst n, 1)) (k : VW X (pc + 1) lo (vL v :: st) G) : VW X pc lo st G := by
  obtain ⟨⟨p, l, e, R, s, m, args, below, meth, c, Q⟩, ⟨z, b, n0, s0⟩, D, cy⟩ := X
  obtain ⟨hx, hb, hml, hown, hts, hK, hlk, hR, e1, e2, hz⟩ := hX
  intro H locs ls cells slots h1 h2 h3 h4 h5 h6
  exact lv_lconst hx hb hd hv (k H locs ls cells slots h1 h2 h3 h4 h5 h6)
theorem v_ldc_w (hX : CO X own cc nL d mc ms n1 s1) {n : Nat} {v : Int32} (hv : Jvm.Cond.constant own n v ∈ GW) (hd : decode cc pc = .ok (.ldc_w n, 3)) (k : VW X (pc + 3) lo (vI v :: st) G) : VW X pc lo st G := by
  obtain ⟨⟨p, l, e, R, s, m, args, below, meth, c, Q⟩, ⟨z, b, n0, s0⟩, D, cy⟩ := X
  obtain ⟨hx, hb, hml, hown, hts, hK, hlk, hR, e1, e2, hz⟩ := hX
  intro H locs ls cells slots h1 h2 h3 h4 h5 h6
  exact lv_ldcw hx hb hown (hts _ hv) hd (k H locs ls cells slots h1 h2 h3 h4 h5 h6)
theorem v_ldc2_w (hX : CO X own cc nL d mc ms n1 s1) {n : Nat} {v : Int64} (hv : Jvm.Cond.constantLong own n v ∈ GW) (hd : decode cc pc = .ok (.ldc2_w n, 3)) (k : VW X (pc + 3) lo (vL v :: st) G) : VW X pc lo st G := by
  obtain ⟨⟨p, l, e, R, s, m, args, below, meth, c, Q⟩, ⟨z, b, n0, s0⟩, D, cy⟩ := X
  obtain ⟨hx, hb, hml, hown, hts, hK, hlk, hR, e1, e2, hz⟩ := hX
  intro H locs ls cells slots h1 h2 h3 h4 h5 h6
  exact lv_ldc2 hx hb hown (hts _ hv) hd (k H locs ls cells slots h1 h2 h3 h4 h5 h6)
theorem v_null (hX : CO X own cc nL d mc ms n1 s1)  (hd : decode cc pc = .ok (.aconst_null, 1)) (k : VW X (pc + 1) lo (vR 0 :: st) G) : VW X pc lo st G := by
  obtain ⟨⟨p, l, e, R, s, m, args, below, meth, c, Q⟩, ⟨z, b, n0, s0⟩, D, cy⟩ := X
  obtain ⟨hx, hb, hml, hown, hts, hK, hlk, hR, e1, e2, hz⟩ := hX
  intro H locs ls cells slots h1 h2 h3 h4 h5 h6
  exact lv_null hx hb hd (k H locs ls cells slots h1 h2 h3 h4 h5 h6)
theorem v_iload_n (hX : CO X own cc nL d mc ms n1 s1) {i : Fin 4} {x : Int32} (hl : lo[(i : Nat)]? = some (some (vI x))) (hd : decode cc pc = .ok (.iload_n i, 1)) (k : VW X (pc + 1) lo (vI x :: st) G) : VW X pc lo st G := by
  obtain ⟨⟨p, l, e, R, s, m, args, below, meth, c, Q⟩, ⟨z, b, n0, s0⟩, D, cy⟩ := X
  obtain ⟨hx, hb, hml, hown, hts, hK, hlk, hR, e1, e2, hz⟩ := hX
  intro H locs ls cells slots h1 h2 h3 h4 h5 h6
  exact lv_iload_n hx hb hd rfl (h6.at hl) (k H locs ls cells slots h1 h2 h3 h4 h5 h6)
theorem v_iload (hX : CO X own cc nL d mc ms n1 s1) {i : Nat} {x : Int32} (hl : lo[i]? = some (some (vI x))) (hd : decode cc pc = .ok (.iload i, 2)) (k : VW X (pc + 2) lo (vI x :: st) G) : VW X pc lo st G := by
  obtain ⟨⟨p, l, e, R, s, m, args, below, meth, c, Q⟩, ⟨z, b, n0, s0⟩, D, cy⟩ := X
  obtain ⟨hx, hb, hml, hown, hts, hK, hlk, hR, e1, e2, hz⟩ := hX
  intro H locs ls cells slots h1 h2 h3 h4 h5 h6
  exact lv_iload hx hb hd (h6.at hl) (k H locs ls cells slots h1 h2 h3 h4 h5 h6)
theorem v_lload_n (hX : CO X own cc nL d mc ms n1 s1) {i : Fin 4} {x : Int64} (hl : lo[(i : Nat)]? = some (some (vL x))) (hd : decode cc pc = .ok (.lload_n i, 1)) (k : VW X (pc + 1) lo (vL x :: st) G) : VW X pc lo st G := by
  obtain ⟨⟨p, l, e, R, s, m, args, below, meth, c, Q⟩, ⟨z, b, n0, s0⟩, D, cy⟩ := X
  obtain ⟨hx, hb, hml, hown, hts, hK, hlk, hR, e1, e2, hz⟩ := hX
  intro H locs ls cells slots h1 h2 h3 h4 h5 h6
  exact lv_lload_n hx hb hd rfl (h6.at hl) (k H locs ls cells slots h1 h2 h3 h4 h5 h6)
theorem v_lload (hX : CO X own cc nL d mc ms n1 s1) {i : Nat} {x : Int64} (hl : lo[i]? = some (some (vL x))) (hd : decode cc pc = .ok (.lload i, 2)) (k : VW X (pc + 2) lo (vL x :: st) G) : VW X pc lo st G := by
  obtain ⟨⟨p, l, e, R, s, m, args, below, meth, c, Q⟩, ⟨z, b, n0, s0⟩, D, cy⟩ := X
  obtain ⟨hx, hb, hml, hown, hts, hK, hlk, hR, e1, e2, hz⟩ := hX
  intro H locs ls cells slots h1 h2 h3 h4 h5 h6
  exact lv_lload hx hb hd (h6.at hl) (k H locs ls cells slots h1 h2 h3 h4 h5 h6)
theorem v_aload_n (hX : CO X own cc nL d mc ms n1 s1) {i : Fin 4} {r : Nat} (hl : lo[(i : Nat)]? = some (some (vR r))) (hd : decode cc pc = .ok (.aload_n i, 1)) (k : VW X (pc + 1) lo (vR r :: st) G) : VW X pc lo st G := by
  obtain ⟨⟨p, l, e, R, s, m, args, below, meth, c, Q⟩, ⟨z, b, n0, s0⟩, D, cy⟩ := X
  obtain ⟨hx, hb, hml, hown, hts, hK, hlk, hR, e1, e2, hz⟩ := hX
  intro H locs ls cells slots h1 h2 h3 h4 h5 h6
  have ha := h6.at hl
  have k := k H locs ls cells slots h1 h2 h3 h4 h5 h6
  rw [show (vR r :: st).map (cv z b) = cvR z b r :: st.map (cv z b) from rfl] at k
  have ha : ls[(i : Nat)]? = some (.val (cvR z b r)) := ha
  rcases cvR_or z b r with h | ⟨a, h⟩
  · rw [h] at k ha
    exact lv_aload_nN hx hb hd rfl ha k
  · rw [h] at k ha
    exact lv_aload_n hx hb hd rfl ha k
theorem v_istore_n (hX : CO X own cc nL d mc ms n1 s1) {i : Fin 4} {x : Int32} {lo' : List (Option AV)} (hl : (i : Nat) < lo.length) (he : sto1 lo (i : Nat) (vI x) = lo') (hd : decode cc pc = .ok (.istore_n i, 1)) (k : VW X (pc + 1) lo' st G) : VW X pc lo (vI x :: st) G := by
  subst he
  obtain ⟨⟨p, l, e, R, s, m, args, below, meth, c, Q⟩, ⟨z, b, n0, s0⟩, D, cy⟩ := X
  obtain ⟨hx, hb, hml, hown, hts, hK, hlk, hR, e1, e2, hz⟩ := hX
  intro H locs ls cells slots h1 h2 h3 h4 h5 h6
  exact lv_istore_n hx hb hd rfl h6 hl rfl (fun ls' hl' => k H locs ls' cells slots h1 h2 h3 h4 h5 (LR.sto1 hl rfl hl'))
theorem v_lstore_n (hX : CO X own cc nL d mc ms n1 s1) {i : Fin 4} {x : Int64} {lo' : List (Option AV)} (hl : (i : Nat) + 1 < lo.length) (he : sto2 lo (i : Nat) (vL x) = lo') (hd : decode cc pc = .ok (.lstore_n i, 1)) (k : VW X (pc + 1) lo' st G) : VW X pc lo (vL x :: st) G := by
  subst he
  obtain ⟨⟨p, l, e, R, s, m, args, below, meth, c, Q⟩, ⟨z, b, n0, s0⟩, D, cy⟩ := X
  obtain ⟨hx, hb, hml, hown, hts, hK, hlk, hR, e1, e2, hz⟩ := hX
  intro H locs ls cells slots h1 h2 h3 h4 h5 h6
  exact lv_lstore_n hx hb hd rfl h6 hl rfl (fun ls' hl' => k H locs ls' cells slots h1 h2 h3 h4 h5 (LR.sto2 hl rfl hl'))
theorem v_astore_n (hX : CO X own cc nL d mc ms n1 s1) {i : Fin 4} {r : Nat} {lo' : List (Option AV)} (hl : (i : Nat) < lo.length) (he : sto1 lo (i : Nat) (vR r) = lo') (hd : decode cc pc = .ok (.astore_n i, 1)) (k : VW X (pc + 1) lo' st G) : VW X pc lo (vR r :: st) G := by
  subst he
  obtain ⟨⟨p, l, e, R, s, m, args, below, meth, c, Q⟩, ⟨z, b, n0, s0⟩, D, cy⟩ := X
  obtain ⟨hx, hb, hml, hown, hts, hK, hlk, hR, e1, e2, hz⟩ := hX
  intro H locs ls cells slots h1 h2 h3 h4 h5 h6
  rw [show (vR r :: st).map (cv z b) = cvR z b r :: st.map (cv z b) from rfl]
  rcases cvR_or z b r with h | ⟨a, h⟩
  · rw [h]
    exact lv_astore_nN hx hb hd rfl h6 hl rfl (fun ls' hl' => k H locs ls' cells slots h1 h2 h3 h4 h5 (LR.sto1 hl (v := vR r) h hl'))
  · rw [h]
    exact lv_astore_n hx hb hd rfl h6 hl rfl (fun ls' hl' => k H locs ls' cells slots h1 h2 h3 h4 h5 (LR.sto1 hl (v := vR r) h hl'))
theorem v_aload (hX : CO X own cc nL d mc ms n1 s1) {i : Nat} {r : Nat} (hl : lo[i]? = some (some (vR r))) (hd : decode cc pc = .ok (.aload i, 2)) (k : VW X (pc + 2) lo (vR r :: st) G) : VW X pc lo st G := by
  obtain ⟨⟨p, l, e, R, s, m, args, below, meth, c, Q⟩, ⟨z, b, n0, s0⟩, D, cy⟩ := X
  obtain ⟨hx, hb, hml, hown, hts, hK, hlk, hR, e1, e2, hz⟩ := hX
  intro H locs ls cells slots h1 h2 h3 h4 h5 h6
  have ha := h6.at hl
  have k := k H locs ls cells slots h1 h2 h3 h4 h5 h6
  rw [show (vR r :: st).map (cv z b) = cvR z b r :: st.map (cv z b) from rfl] at k
  have ha : ls[i]? = some (.val (cvR z b r)) := ha
  rcases cvR_or z b r with h | ⟨a, h⟩
  · rw [h] at k ha
    exact lv_aloadN hx hb hd ha k
  · rw [h] at k ha
    exact lv_aload hx hb hd ha k
theorem v_istore (hX : CO X own cc nL d mc ms n1 s1) {i : Nat} {x : Int32} {lo' : List (Option AV)} (hl : i < lo.length) (he : sto1 lo i (vI x) = lo') (hd : decode cc pc = .ok (.istore i, 2)) (k : VW X (pc + 2) lo' st G) : VW X pc lo (vI x :: st) G := by
  subst he
  obtain ⟨⟨p, l, e, R, s, m, args, below, meth, c, Q⟩, ⟨z, b, n0, s0⟩, D, cy⟩ := X
  obtain ⟨hx, hb, hml, hown, hts, hK, hlk, hR, e1, e2, hz⟩ := hX
  intro H locs ls cells slots h1 h2 h3 h4 h5 h6
  exact lv_istore hx hb hd h6 hl rfl (fun ls' hl' => k H locs ls' cells slots h1 h2 h3 h4 h5 (LR.sto1 hl rfl hl'))
theorem v_lstore (hX : CO X own cc nL d mc ms n1 s1) {i : Nat} {x : Int64} {lo' : List (Option AV)} (hl : i + 1 < lo.length) (he : sto2 lo i (vL x) = lo') (hd : decode cc pc = .ok (.lstore i, 2)) (k : VW X (pc + 2) lo' st G) : VW X pc lo (vL x :: st) G := by
  subst he
  obtain ⟨⟨p, l, e, R, s, m, args, below, meth, c, Q⟩, ⟨z, b, n0, s0⟩, D, cy⟩ := X
  obtain ⟨hx, hb, hml, hown, hts, hK, hlk, hR, e1, e2, hz⟩ := hX
  intro H locs ls cells slots h1 h2 h3 h4 h5 h6
  exact lv_lstore hx hb hd h6 hl rfl (fun ls' hl' => k H locs ls' cells slots h1 h2 h3 h4 h5 (LR.sto2 hl rfl hl'))
theorem v_astore (hX : CO X own cc nL d mc ms n1 s1) {i : Nat} {r : Nat} {lo' : List (Option AV)} (hl : i < lo.length) (he : sto1 lo i (vR r) = lo') (hd : decode cc pc = .ok (.astore i, 2)) (k : VW X (pc + 2) lo' st G) : VW X pc lo (vR r :: st) G := by
  subst he
  obtain ⟨⟨p, l, e, R, s, m, args, below, meth, c, Q⟩, ⟨z, b, n0, s0⟩, D, cy⟩ := X
  obtain ⟨hx, hb, hml, hown, hts, hK, hlk, hR, e1, e2, hz⟩ := hX
  intro H locs ls cells slots h1 h2 h3 h4 h5 h6
  rw [show (vR r :: st).map (cv z b) = cvR z b r :: st.map (cv z b) from rfl]
  rcases cvR_or z b r with h | ⟨a, h⟩
  · rw [h]
    exact lv_astoreN hx hb hd h6 hl rfl (fun ls' hl' => k H locs ls' cells slots h1 h2 h3 h4 h5 (LR.sto1 hl (v := vR r) h hl'))
  · rw [h]
    exact lv_astore hx hb hd h6 hl rfl (fun ls' hl' => k H locs ls' cells slots h1 h2 h3 h4 h5 (LR.sto1 hl (v := vR r) h hl'))
theorem v_iinc (hX : CO X own cc nL d mc ms n1 s1) {i : Nat} {n : Int} {x : Int32} {lo' : List (Option AV)} (hi : lo[i]? = some (some (vI x))) (he : sto1 lo i (vI (x + Int32.ofInt n)) = lo') (hd : decode cc pc = .ok (.iinc i n, 3)) (k : VW X (pc + 3) lo' st G) : VW X pc lo st G := by
  subst he
  obtain ⟨⟨p, l, e, R, s, m, args, below, meth, c, Q⟩, ⟨z, b, n0, s0⟩, D, cy⟩ := X
  obtain ⟨hx, hb, hml, hown, hts, hK, hlk, hR, e1, e2, hz⟩ := hX
  intro H locs ls cells slots h1 h2 h3 h4 h5 h6
  have hl := (List.getElem?_eq_some_iff.mp hi).1
  obtain ⟨kk, hk⟩ := List.getElem?_of_mem ((asc_mem (z := z) (b := b) lo 0 (i, .int x)).mpr ⟨i, vI x, hi, by simp [cv]⟩)
  exact lv_iinc hx hb hd h6 hk rfl hl rfl (fun ls' hl' => k H locs ls' cells slots h1 h2 h3 h4 h5 (LR.sto1 hl rfl hl'))
theorem v_iadd (hX : CO X own cc nL d mc ms n1 s1) {x y : Int32} (hd : decode cc pc = .ok (.iadd, 1)) (k : VW X (pc + 1) lo (vI (x + y) :: st) G) : VW X pc lo (vI y :: vI x :: st) G := by
  obtain ⟨⟨p, l, e, R, s, m, args, below, meth, c, Q⟩, ⟨z, b, n0, s0⟩, D, cy⟩ := X
  obtain ⟨hx, hb, hml, hown, hts, hK, hlk, hR, e1, e2, hz⟩ := hX
  intro H locs ls cells slots h1 h2 h3 h4 h5 h6
  exact lv_iadd hx hb hd (k H locs ls cells slots h1 h2 h3 h4 h5 h6)
theorem v_isub (hX : CO X own cc nL d mc ms n1 s1) {x y : Int32} (hd : decode cc pc = .ok (.isub, 1)) (k : VW X (pc + 1) lo (vI (x - y) :: st) G) : VW X pc lo (vI y :: vI x :: st) G := by
  obtain ⟨⟨p, l, e, R, s, m, args, below, meth, c, Q⟩, ⟨z, b, n0, s0⟩, D, cy⟩ := X
  obtain ⟨hx, hb, hml, hown, hts, hK, hlk, hR, e1, e2, hz⟩ := hX
  intro H locs ls cells slots h1 h2 h3 h4 h5 h6
  exact lv_isub hx hb hd (k H locs ls cells slots h1 h2 h3 h4 h5 h6)
theorem v_imul (hX : CO X own cc nL d mc ms n1 s1) {x y : Int32} (hd : decode cc pc = .ok (.imul, 1)) (k : VW X (pc + 1) lo (vI (x * y) :: st) G) : VW X pc lo (vI y :: vI x :: st) G := by
  obtain ⟨⟨p, l, e, R, s, m, args, below, meth, c, Q⟩, ⟨z, b, n0, s0⟩, D, cy⟩ := X
  obtain ⟨hx, hb, hml, hown, hts, hK, hlk, hR, e1, e2, hz⟩ := hX
  intro H locs ls cells slots h1 h2 h3 h4 h5 h6
  exact lv_imul hx hb hd (k H locs ls cells slots h1 h2 h3 h4 h5 h6)
theorem v_iand (hX : CO X own cc nL d mc ms n1 s1) {x y : Int32} (hd : decode cc pc = .ok (.iand, 1)) (k : VW X (pc + 1) lo (vI (x &&& y) :: st) G) : VW X pc lo (vI y :: vI x :: st) G := by
  obtain ⟨⟨p, l, e, R, s, m, args, below, meth, c, Q⟩, ⟨z, b, n0, s0⟩, D, cy⟩ := X
  obtain ⟨hx, hb, hml, hown, hts, hK, hlk, hR, e1, e2, hz⟩ := hX
  intro H locs ls cells slots h1 h2 h3 h4 h5 h6
  exact lv_iand hx hb hd (k H locs ls cells slots h1 h2 h3 h4 h5 h6)
theorem v_ior (hX : CO X own cc nL d mc ms n1 s1) {x y : Int32} (hd : decode cc pc = .ok (.ior, 1)) (k : VW X (pc + 1) lo (vI (x ||| y) :: st) G) : VW X pc lo (vI y :: vI x :: st) G := by
  obtain ⟨⟨p, l, e, R, s, m, args, below, meth, c, Q⟩, ⟨z, b, n0, s0⟩, D, cy⟩ := X
  obtain ⟨hx, hb, hml, hown, hts, hK, hlk, hR, e1, e2, hz⟩ := hX
  intro H locs ls cells slots h1 h2 h3 h4 h5 h6
  exact lv_ior hx hb hd (k H locs ls cells slots h1 h2 h3 h4 h5 h6)
theorem v_ixor (hX : CO X own cc nL d mc ms n1 s1) {x y : Int32} (hd : decode cc pc = .ok (.ixor, 1)) (k : VW X (pc + 1) lo (vI (x ^^^ y) :: st) G) : VW X pc lo (vI y :: vI x :: st) G := by
  obtain ⟨⟨p, l, e, R, s, m, args, below, meth, c, Q⟩, ⟨z, b, n0, s0⟩, D, cy⟩ := X
  obtain ⟨hx, hb, hml, hown, hts, hK, hlk, hR, e1, e2, hz⟩ := hX
  intro H locs ls cells slots h1 h2 h3 h4 h5 h6
  exact lv_ixor hx hb hd (k H locs ls cells slots h1 h2 h3 h4 h5 h6)
theorem v_ladd (hX : CO X own cc nL d mc ms n1 s1) {x y : Int64} (hd : decode cc pc = .ok (.ladd, 1)) (k : VW X (pc + 1) lo (vL (x + y) :: st) G) : VW X pc lo (vL y :: vL x :: st) G := by
  obtain ⟨⟨p, l, e, R, s, m, args, below, meth, c, Q⟩, ⟨z, b, n0, s0⟩, D, cy⟩ := X
  obtain ⟨hx, hb, hml, hown, hts, hK, hlk, hR, e1, e2, hz⟩ := hX
  intro H locs ls cells slots h1 h2 h3 h4 h5 h6
  exact lv_ladd hx hb hd (k H locs ls cells slots h1 h2 h3 h4 h5 h6)
theorem v_lsub (hX : CO X own cc nL d mc ms n1 s1) {x y : Int64} (hd : decode cc pc = .ok (.lsub, 1)) (k : VW X (pc + 1) lo (vL (x - y) :: st) G) : VW X pc lo (vL y :: vL x :: st) G := by
  obtain ⟨⟨p, l, e, R, s, m, args, below, meth, c, Q⟩, ⟨z, b, n0, s0⟩, D, cy⟩ := X
  obtain ⟨hx, hb, hml, hown, hts, hK, hlk, hR, e1, e2, hz⟩ := hX
  intro H locs ls cells slots h1 h2 h3 h4 h5 h6
  exact lv_lsub hx hb hd (k H locs ls cells slots h1 h2 h3 h4 h5 h6)
theorem v_lmul (hX : CO X own cc nL d mc ms n1 s1) {x y : Int64} (hd : decode cc pc = .ok (.lmul, 1)) (k : VW X (pc + 1) lo (vL (x * y) :: st) G) : VW X pc lo (vL y :: vL x :: st) G := by
  obtain ⟨⟨p, l, e, R, s, m, args, below, meth, c, Q⟩, ⟨z, b, n0, s0⟩, D, cy⟩ := X
  obtain ⟨hx, hb, hml, hown, hts, hK, hlk, hR, e1, e2, hz⟩ := hX
  intro H locs ls cells slots h1 h2 h3 h4 h5 h6
  exact lv_lmul hx hb hd (k H locs ls cells slots h1 h2 h3 h4 h5 h6)
theorem v_idiv (hX : CO X own cc nL d mc ms n1 s1) {x y : Int32} (hn : ¬ y = 0) (hd : decode cc pc = .ok (.idiv, 1)) (k : VW X (pc + 1) lo (vI (x / y) :: st) G) : VW X pc lo (vI y :: vI x :: st) G := by
  obtain ⟨⟨p, l, e, R, s, m, args, below, meth, c, Q⟩, ⟨z, b, n0, s0⟩, D, cy⟩ := X
  obtain ⟨hx, hb, hml, hown, hts, hK, hlk, hR, e1, e2, hz⟩ := hX
  intro H locs ls cells slots h1 h2 h3 h4 h5 h6
  exact lv_idiv hx hb hd hn (k H locs ls cells slots h1 h2 h3 h4 h5 h6)
theorem v_irem (hX : CO X own cc nL d mc ms n1 s1) {x y : Int32} (hn : ¬ y = 0) (hd : decode cc pc = .ok (.irem, 1)) (k : VW X (pc + 1) lo (vI (x - x / y * y) :: st) G) : VW X pc lo (vI y :: vI x :: st) G := by
  obtain ⟨⟨p, l, e, R, s, m, args, below, meth, c, Q⟩, ⟨z, b, n0, s0⟩, D, cy⟩ := X
  obtain ⟨hx, hb, hml, hown, hts, hK, hlk, hR, e1, e2, hz⟩ := hX
  intro H locs ls cells slots h1 h2 h3 h4 h5 h6
  exact lv_irem hx hb hd hn (k H locs ls cells slots h1 h2 h3 h4 h5 h6)
theorem v_ldiv (hX : CO X own cc nL d mc ms n1 s1) {x y : Int64} (hn : ¬ y = 0) (hd : decode cc pc = .ok (.ldiv, 1)) (k : VW X (pc + 1) lo (vL (x / y) :: st) G) : VW X pc lo (vL y :: vL x :: st) G := by
  obtain ⟨⟨p, l, e, R, s, m, args, below, meth, c, Q⟩, ⟨z, b, n0, s0⟩, D, cy⟩ := X
  obtain ⟨hx, hb, hml, hown, hts, hK, hlk, hR, e1, e2, hz⟩ := hX
  intro H locs ls cells slots h1 h2 h3 h4 h5 h6
  exact lv_ldiv hx hb hd hn (k H locs ls cells slots h1 h2 h3 h4 h5 h6)
theorem v_lrem (hX : CO X own cc nL d mc ms n1 s1) {x y : Int64} (hn : ¬ y = 0) (hd : decode cc pc = .ok (.lrem, 1)) (k : VW X (pc + 1) lo (vL (x - x / y * y) :: st) G) : VW X pc lo (vL y :: vL x :: st) G := by
  obtain ⟨⟨p, l, e, R, s, m, args, below, meth, c, Q⟩, ⟨z, b, n0, s0⟩, D, cy⟩ := X
  obtain ⟨hx, hb, hml, hown, hts, hK, hlk, hR, e1, e2, hz⟩ := hX
  intro H locs ls cells slots h1 h2 h3 h4 h5 h6
  exact lv_lrem hx hb hd hn (k H locs ls cells slots h1 h2 h3 h4 h5 h6)
theorem v_ishl (hX : CO X own cc nL d mc ms n1 s1) {x y : Int32} (hd : decode cc pc = .ok (.ishl, 1)) (k : VW X (pc + 1) lo (vI (x <<< (y &&& 31)) :: st) G) : VW X pc lo (vI y :: vI x :: st) G := by
  obtain ⟨⟨p, l, e, R, s, m, args, below, meth, c, Q⟩, ⟨z, b, n0, s0⟩, D, cy⟩ := X
  obtain ⟨hx, hb, hml, hown, hts, hK, hlk, hR, e1, e2, hz⟩ := hX
  intro H locs ls cells slots h1 h2 h3 h4 h5 h6
  exact lv_ishl hx hb hd (k H locs ls cells slots h1 h2 h3 h4 h5 h6)
theorem v_ishr (hX : CO X own cc nL d mc ms n1 s1) {x y : Int32} (hd : decode cc pc = .ok (.ishr, 1)) (k : VW X (pc + 1) lo (vI (x >>> (y &&& 31)) :: st) G) : VW X pc lo (vI y :: vI x :: st) G := by
  obtain ⟨⟨p, l, e, R, s, m, args, below, meth, c, Q⟩, ⟨z, b, n0, s0⟩, D, cy⟩ := X
  obtain ⟨hx, hb, hml, hown, hts, hK, hlk, hR, e1, e2, hz⟩ := hX
  intro H locs ls cells slots h1 h2 h3 h4 h5 h6
  exact lv_ishr hx hb hd (k H locs ls cells slots h1 h2 h3 h4 h5 h6)
theorem v_iushr (hX : CO X own cc nL d mc ms n1 s1) {x y : Int32} (hd : decode cc pc = .ok (.iushr, 1)) (k : VW X (pc + 1) lo (vI (x.toUInt32 >>> (y.toUInt32 &&& Int32.toUInt32 31)).toInt32 :: st) G) : VW X pc lo (vI y :: vI x :: st) G := by
  obtain ⟨⟨p, l, e, R, s, m, args, below, meth, c, Q⟩, ⟨z, b, n0, s0⟩, D, cy⟩ := X
  obtain ⟨hx, hb, hml, hown, hts, hK, hlk, hR, e1, e2, hz⟩ := hX
  intro H locs ls cells slots h1 h2 h3 h4 h5 h6
  exact lv_iushr hx hb hd rfl (k H locs ls cells slots h1 h2 h3 h4 h5 h6)
theorem v_i2l (hX : CO X own cc nL d mc ms n1 s1) {x : Int32} (hd : decode cc pc = .ok (.i2l, 1)) (k : VW X (pc + 1) lo (vL x.toInt64 :: st) G) : VW X pc lo (vI x :: st) G := by
  obtain ⟨⟨p, l, e, R, s, m, args, below, meth, c, Q⟩, ⟨z, b, n0, s0⟩, D, cy⟩ := X
  obtain ⟨hx, hb, hml, hown, hts, hK, hlk, hR, e1, e2, hz⟩ := hX
  intro H locs ls cells slots h1 h2 h3 h4 h5 h6
  exact lv_i2l hx hb hd rfl (k H locs ls cells slots h1 h2 h3 h4 h5 h6)
theorem v_i2b (hX : CO X own cc nL d mc ms n1 s1) {x : Int32} (hd : decode cc pc = .ok (.i2b, 1)) (k : VW X (pc + 1) lo (vI x.toInt8.toInt32 :: st) G) : VW X pc lo (vI x :: st) G := by
  obtain ⟨⟨p, l, e, R, s, m, args, below, meth, c, Q⟩, ⟨z, b, n0, s0⟩, D, cy⟩ := X
  obtain ⟨hx, hb, hml, hown, hts, hK, hlk, hR, e1, e2, hz⟩ := hX
  intro H locs ls cells slots h1 h2 h3 h4 h5 h6
  exact lv_i2b hx hb hd rfl (k H locs ls cells slots h1 h2 h3 h4 h5 h6)
theorem v_i2s (hX : CO X own cc nL d mc ms n1 s1) {x : Int32} (hd : decode cc pc = .ok (.i2s, 1)) (k : VW X (pc + 1) lo (vI x.toInt16.toInt32 :: st) G) : VW X pc lo (vI x :: st) G := by
  obtain ⟨⟨p, l, e, R, s, m, args, below, meth, c, Q⟩, ⟨z, b, n0, s0⟩, D, cy⟩ := X
  obtain ⟨hx, hb, hml, hown, hts, hK, hlk, hR, e1, e2, hz⟩ := hX
  intro H locs ls cells slots h1 h2 h3 h4 h5 h6
  exact lv_i2s hx hb hd rfl (k H locs ls cells slots h1 h2 h3 h4 h5 h6)
theorem v_lcmp (hX : CO X own cc nL d mc ms n1 s1) {x y : Int64} (hd : decode cc pc = .ok (.lcmp, 1)) (k : VW X (pc + 1) lo (vI (lg_cmp x y) :: st) G) : VW X pc lo (vL y :: vL x :: st) G := by
  obtain ⟨⟨p, l, e, R, s, m, args, below, meth, c, Q⟩, ⟨z, b, n0, s0⟩, D, cy⟩ := X
  obtain ⟨hx, hb, hml, hown, hts, hK, hlk, hR, e1, e2, hz⟩ := hX
  intro H locs ls cells slots h1 h2 h3 h4 h5 h6
  exact W.lcmp hx hb hd (k H locs ls cells slots h1 h2 h3 h4 h5 h6)
theorem v_dup (hX : CO X own cc nL d mc ms n1 s1) {v : AV} (hc : catA v = 1) (hd : decode cc pc = .ok (.dup, 1)) (k : VW X (pc + 1) lo (v :: v :: st) G) : VW X pc lo (v :: st) G := by
  obtain ⟨⟨p, l, e, R, s, m, args, below, meth, c, Q⟩, ⟨z, b, n0, s0⟩, D, cy⟩ := X
  obtain ⟨hx, hb, hml, hown, hts, hK, hlk, hR, e1, e2, hz⟩ := hX
  intro H locs ls cells slots h1 h2 h3 h4 h5 h6
  exact lv_dup hx hb hd ((cv_cat z b v).trans hc) (k H locs ls cells slots h1 h2 h3 h4 h5 h6)
theorem v_dup2 (hX : CO X own cc nL d mc ms n1 s1) {v w : AV} (hc : catA v = 1) (hc2 : catA w = 1) (hd : decode cc pc = .ok (.dup2, 1)) (k : VW X (pc + 1) lo (v :: w :: v :: w :: st) G) : VW X pc lo (v :: w :: st) G := by
  obtain ⟨⟨p, l, e, R, s, m, args, below, meth, c, Q⟩, ⟨z, b, n0, s0⟩, D, cy⟩ := X
  obtain ⟨hx, hb, hml, hown, hts, hK, hlk, hR, e1, e2, hz⟩ := hX
  intro H locs ls cells slots h1 h2 h3 h4 h5 h6
  exact lv_dup2_11 hx hb hd ((cv_cat z b v).trans hc) ((cv_cat z b w).trans hc2) (k H locs ls cells slots h1 h2 h3 h4 h5 h6)
theorem v_if_eq (hX : CO X own cc nL d mc ms n1 s1) {x : Int32} {off : Int} {tgt : Nat} (hd : decode cc pc = .ok (.ifCond .eq off, 3)) (ht : (pc : Int) + off = (tgt : Int)) (kt : x = 0 → VW X tgt lo st G) (kf : ¬ x = 0 → VW X (pc + 3) lo st G) : VW X pc lo (vI x :: st) G := by
  obtain ⟨⟨p, l, e, R, s, m, args, below, meth, c, Q⟩, ⟨z, b, n0, s0⟩, D, cy⟩ := X
  obtain ⟨hx, hb, hml, hown, hts, hK, hlk, hR, e1, e2, hz⟩ := hX
  intro H locs ls cells slots h1 h2 h3 h4 h5 h6
  exact lv_if_eq hx hb hd ht (fun hc => kt hc H locs ls cells slots h1 h2 h3 h4 h5 h6) (fun hc => kf hc H locs ls cells slots h1 h2 h3 h4 h5 h6)
theorem v_icmp_eq (hX : CO X own cc nL d mc ms n1 s1) {x y : Int32} {off : Int} {tgt : Nat} (hd : decode cc pc = .ok (.if_icmp .eq off, 3)) (ht : (pc : Int) + off = (tgt : Int)) (kt : x = y → VW X tgt lo st G) (kf : ¬ x = y → VW X (pc + 3) lo st G) : VW X pc lo (vI y :: vI x :: st) G := by
  obtain ⟨⟨p, l, e, R, s, m, args, below, meth, c, Q⟩, ⟨z, b, n0, s0⟩, D, cy⟩ := X
  obtain ⟨hx, hb, hml, hown, hts, hK, hlk, hR, e1, e2, hz⟩ := hX
  intro H locs ls cells slots h1 h2 h3 h4 h5 h6
  exact lv_icmp_eq hx hb hd ht (fun hc => kt hc H locs ls cells slots h1 h2 h3 h4 h5 h6) (fun hc => kf hc H locs ls cells slots h1 h2 h3 h4 h5 h6)
theorem v_if_ne (hX : CO X own cc nL d mc ms n1 s1) {x : Int32} {off : Int} {tgt : Nat} (hd : decode cc pc = .ok (.ifCond .ne off, 3)) (ht : (pc : Int) + off = (tgt : Int)) (kt : ¬ x = 0 → VW X tgt lo st G) (kf : x = 0 → VW X (pc + 3) lo st G) : VW X pc lo (vI x :: st) G := by
  obtain ⟨⟨p, l, e, R, s, m, args, below, meth, c, Q⟩, ⟨z, b, n0, s0⟩, D, cy⟩ := X
  obtain ⟨hx, hb, hml, hown, hts, hK, hlk, hR, e1, e2, hz⟩ := hX
  intro H locs ls cells slots h1 h2 h3 h4 h5 h6
  exact lv_if_ne hx hb hd ht (fun hc => kt hc H locs ls cells slots h1 h2 h3 h4 h5 h6) (fun hc => kf hc H locs ls cells slots h1 h2 h3 h4 h5 h6)
theorem v_icmp_ne (hX : CO X own cc nL d mc ms n1 s1) {x y : Int32} {off : Int} {tgt : Nat} (hd : decode cc pc = .ok (.if_icmp .ne off, 3)) (ht : (pc : Int) + off = (tgt : Int)) (kt : ¬ x = y → VW X tgt lo st G) (kf : x = y → VW X (pc + 3) lo st G) : VW X pc lo (vI y :: vI x :: st) G := by
  obtain ⟨⟨p, l, e, R, s, m, args, below, meth, c, Q⟩, ⟨z, b, n0, s0⟩, D, cy⟩ := X
  obtain ⟨hx, hb, hml, hown, hts, hK, hlk, hR, e1, e2, hz⟩ := hX
  intro H locs ls cells slots h1 h2 h3 h4 h5 h6
  exact lv_icmp_ne hx hb hd ht (fun hc => kt hc H locs ls cells slots h1 h2 h3 h4 h5 h6) (fun hc => kf hc H locs ls cells slots h1 h2 h3 h4 h5 h6)
theorem v_if_lt (hX : CO X own cc nL d mc ms n1 s1) {x : Int32} {off : Int} {tgt : Nat} (hd : decode cc pc = .ok (.ifCond .lt off, 3)) (ht : (pc : Int) + off = (tgt : Int)) (kt : x < 0 → VW X tgt lo st G) (kf : ¬ x < 0 → VW X (pc + 3) lo st G) : VW X pc lo (vI x :: st) G := by
  obtain ⟨⟨p, l, e, R, s, m, args, below, meth, c, Q⟩, ⟨z, b, n0, s0⟩, D, cy⟩ := X
  obtain ⟨hx, hb, hml, hown, hts, hK, hlk, hR, e1, e2, hz⟩ := hX
  intro H locs ls cells slots h1 h2 h3 h4 h5 h6
  exact lv_if_lt hx hb hd ht (fun hc => kt hc H locs ls cells slots h1 h2 h3 h4 h5 h6) (fun hc => kf hc H locs ls cells slots h1 h2 h3 h4 h5 h6)
theorem v_icmp_lt (hX : CO X own cc nL d mc ms n1 s1) {x y : Int32} {off : Int} {tgt : Nat} (hd : decode cc pc = .ok (.if_icmp .lt off, 3)) (ht : (pc : Int) + off = (tgt : Int)) (kt : x < y → VW X tgt lo st G) (kf : ¬ x < y → VW X (pc + 3) lo st G) : VW X pc lo (vI y :: vI x :: st) G := by
  obtain ⟨⟨p, l, e, R, s, m, args, below, meth, c, Q⟩, ⟨z, b, n0, s0⟩, D, cy⟩ := X
  obtain ⟨hx, hb, hml, hown, hts, hK, hlk, hR, e1, e2, hz⟩ := hX
  intro H locs ls cells slots h1 h2 h3 h4 h5 h6
  exact lv_icmp_lt hx hb hd ht (fun hc => kt hc H locs ls cells slots h1 h2 h3 h4 h5 h6) (fun hc => kf hc H locs ls cells slots h1 h2 h3 h4 h5 h6)
theorem v_if_ge (hX : CO X own cc nL d mc ms n1 s1) {x : Int32} {off : Int} {tgt : Nat} (hd : decode cc pc = .ok (.ifCond .ge off, 3)) (ht : (pc : Int) + off = (tgt : Int)) (kt : 0 ≤ x → VW X tgt lo st G) (kf : ¬ 0 ≤ x → VW X (pc + 3) lo st G) : VW X pc lo (vI x :: st) G := by
  obtain ⟨⟨p, l, e, R, s, m, args, below, meth, c, Q⟩, ⟨z, b, n0, s0⟩, D, cy⟩ := X
  obtain ⟨hx, hb, hml, hown, hts, hK, hlk, hR, e1, e2, hz⟩ := hX
  intro H locs ls cells slots h1 h2 h3 h4 h5 h6
  exact lv_if_ge hx hb hd ht (fun hc => kt hc H locs ls cells slots h1 h2 h3 h4 h5 h6) (fun hc => kf hc H locs ls cells slots h1 h2 h3 h4 h5 h6)
theorem v_icmp_ge (hX : CO X own cc nL d mc ms n1 s1) {x y : Int32} {off : Int} {tgt : Nat} (hd : decode cc pc = .ok (.if_icmp .ge off, 3)) (ht : (pc : Int) + off = (tgt : Int)) (kt : y ≤ x → VW X tgt lo st G) (kf : ¬ y ≤ x → VW X (pc + 3) lo st G) : VW X pc lo (vI y :: vI x :: st) G := by
  obtain ⟨⟨p, l, e, R, s, m, args, below, meth, c, Q⟩, ⟨z, b, n0, s0⟩, D, cy⟩ := X
  obtain ⟨hx, hb, hml, hown, hts, hK, hlk, hR, e1, e2, hz⟩ := hX
  intro H locs ls cells slots h1 h2 h3 h4 h5 h6
  exact lv_icmp_ge hx hb hd ht (fun hc => kt hc H locs ls cells slots h1 h2 h3 h4 h5 h6) (fun hc => kf hc H locs ls cells slots h1 h2 h3 h4 h5 h6)
theorem v_if_gt (hX : CO X own cc nL d mc ms n1 s1) {x : Int32} {off : Int} {tgt : Nat} (hd : decode cc pc = .ok (.ifCond .gt off, 3)) (ht : (pc : Int) + off = (tgt : Int)) (kt : 0 < x → VW X tgt lo st G) (kf : ¬ 0 < x → VW X (pc + 3) lo st G) : VW X pc lo (vI x :: st) G := by
  obtain ⟨⟨p, l, e, R, s, m, args, below, meth, c, Q⟩, ⟨z, b, n0, s0⟩, D, cy⟩ := X
  obtain ⟨hx, hb, hml, hown, hts, hK, hlk, hR, e1, e2, hz⟩ := hX
  intro H locs ls cells slots h1 h2 h3 h4 h5 h6
  exact lv_if_gt hx hb hd ht (fun hc => kt hc H locs ls cells slots h1 h2 h3 h4 h5 h6) (fun hc => kf hc H locs ls cells slots h1 h2 h3 h4 h5 h6)
theorem v_icmp_gt (hX : CO X own cc nL d mc ms n1 s1) {x y : Int32} {off : Int} {tgt : Nat} (hd : decode cc pc = .ok (.if_icmp .gt off, 3)) (ht : (pc : Int) + off = (tgt : Int)) (kt : y < x → VW X tgt lo st G) (kf : ¬ y < x → VW X (pc + 3) lo st G) : VW X pc lo (vI y :: vI x :: st) G := by
  obtain ⟨⟨p, l, e, R, s, m, args, below, meth, c, Q⟩, ⟨z, b, n0, s0⟩, D, cy⟩ := X
  obtain ⟨hx, hb, hml, hown, hts, hK, hlk, hR, e1, e2, hz⟩ := hX
  intro H locs ls cells slots h1 h2 h3 h4 h5 h6
  exact lv_icmp_gt hx hb hd ht (fun hc => kt hc H locs ls cells slots h1 h2 h3 h4 h5 h6) (fun hc => kf hc H locs ls cells slots h1 h2 h3 h4 h5 h6)
theorem v_if_le (hX : CO X own cc nL d mc ms n1 s1) {x : Int32} {off : Int} {tgt : Nat} (hd : decode cc pc = .ok (.ifCond .le off, 3)) (ht : (pc : Int) + off = (tgt : Int)) (kt : x ≤ 0 → VW X tgt lo st G) (kf : ¬ x ≤ 0 → VW X (pc + 3) lo st G) : VW X pc lo (vI x :: st) G := by
  obtain ⟨⟨p, l, e, R, s, m, args, below, meth, c, Q⟩, ⟨z, b, n0, s0⟩, D, cy⟩ := X
  obtain ⟨hx, hb, hml, hown, hts, hK, hlk, hR, e1, e2, hz⟩ := hX
  intro H locs ls cells slots h1 h2 h3 h4 h5 h6
  exact lv_if_le hx hb hd ht (fun hc => kt hc H locs ls cells slots h1 h2 h3 h4 h5 h6) (fun hc => kf hc H locs ls cells slots h1 h2 h3 h4 h5 h6)
theorem v_icmp_le (hX : CO X own cc nL d mc ms n1 s1) {x y : Int32} {off : Int} {tgt : Nat} (hd : decode cc pc = .ok (.if_icmp .le off, 3)) (ht : (pc : Int) + off = (tgt : Int)) (kt : x ≤ y → VW X tgt lo st G) (kf : ¬ x ≤ y → VW X (pc + 3) lo st G) : VW X pc lo (vI y :: vI x :: st) G := by
  obtain ⟨⟨p, l, e, R, s, m, args, below, meth, c, Q⟩, ⟨z, b, n0, s0⟩, D, cy⟩ := X
  obtain ⟨hx, hb, hml, hown, hts, hK, hlk, hR, e1, e2, hz⟩ := hX
  intro H locs ls cells slots h1 h2 h3 h4 h5 h6
  exact lv_icmp_le hx hb hd ht (fun hc => kt hc H locs ls cells slots h1 h2 h3 h4 h5 h6) (fun hc => kf hc H locs ls cells slots h1 h2 h3 h4 h5 h6)
theorem v_goto (hX : CO X own cc nL d mc ms n1 s1) {off : Int} {tgt : Nat} (hd : decode cc pc = .ok (.goto off, 3)) (ht : (pc : Int) + off = (tgt : Int)) (k : VW X tgt lo st G) : VW X pc lo st G := by
  obtain ⟨⟨p, l, e, R, s, m, args, below, meth, c, Q⟩, ⟨z, b, n0, s0⟩, D, cy⟩ := X
  obtain ⟨hx, hb, hml, hown, hts, hK, hlk, hR, e1, e2, hz⟩ := hX
  intro H locs ls cells slots h1 h2 h3 h4 h5 h6
  exact lv_goto hx hb hd ht (k H locs ls cells slots h1 h2 h3 h4 h5 h6)
theorem v_ifnull (hX : CO X own cc nL d mc ms n1 s1) {r : Nat} {off : Int} {tgt : Nat} (hd : decode cc pc = .ok (.ifnull off, 3)) (ht : (pc : Int) + off = (tgt : Int)) (kt : r = 0 → VW X tgt lo st G) (kf : ¬ r = 0 → VW X (pc + 3) lo st G) : VW X pc lo (vR r :: st) G := by
  obtain ⟨⟨p, l, e, R, s, m, args, below, meth, c, Q⟩, ⟨z, b, n0, s0⟩, D, cy⟩ := X
  obtain ⟨hx, hb, hml, hown, hts, hK, hlk, hR, e1, e2, hz⟩ := hX
  intro H locs ls cells slots h1 h2 h3 h4 h5 h6
  rw [show (vR r :: st).map (cv z b) = cvR z b r :: st.map (cv z b) from rfl]
  by_cases hr : r = 0
  · have k := kt hr H locs ls cells slots h1 h2 h3 h4 h5 h6
    rw [show cvR z b r = .null by rw [hr]; rfl]
    exact lv_ifnullN hx hb hd ht k
  · have k := kf hr H locs ls cells slots h1 h2 h3 h4 h5 h6
    obtain ⟨a, ha⟩ := cvR_ne (z := z) (b := b) hr
    rw [ha]
    exact lv_ifnull hx hb hd k
theorem v_ifnonnull (hX : CO X own cc nL d mc ms n1 s1) {r : Nat} {off : Int} {tgt : Nat} (hd : decode cc pc = .ok (.ifnonnull off, 3)) (ht : (pc : Int) + off = (tgt : Int)) (kt : ¬ r = 0 → VW X tgt lo st G) (kf : r = 0 → VW X (pc + 3) lo st G) : VW X pc lo (vR r :: st) G := by
  obtain ⟨⟨p, l, e, R, s, m, args, below, meth, c, Q⟩, ⟨z, b, n0, s0⟩, D, cy⟩ := X
  obtain ⟨hx, hb, hml, hown, hts, hK, hlk, hR, e1, e2, hz⟩ := hX
  intro H locs ls cells slots h1 h2 h3 h4 h5 h6
  rw [show (vR r :: st).map (cv z b) = cvR z b r :: st.map (cv z b) from rfl]
  by_cases hr : r = 0
  · have k := kf hr H locs ls cells slots h1 h2 h3 h4 h5 h6
    rw [show cvR z b r = .null by rw [hr]; rfl]
    exact lv_ifnonnullN hx hb hd k
  · have k := kt hr H locs ls cells slots h1 h2 h3 h4 h5 h6
    obtain ⟨a, ha⟩ := cvR_ne (z := z) (b := b) hr
    rw [ha]
    exact lv_ifnonnull hx hb hd ht k
theorem v_tabIn (hX : CO X own cc nL d mc ms n1 s1) {dflt lw hi : Int} {offs : Array Int} {len : Nat} {x y : Int32} {off : Int} {tgt : Nat} (he : x = y) (hd : decode cc pc = .ok (.tableswitch dflt lw hi offs, len)) (g1 : ¬ y.toInt < lw) (g2 : ¬ hi < y.toInt) (ho : offs[(y.toInt - lw).toNat]? = some off) (ht : (pc : Int) + off = (tgt : Int)) (k : VW X tgt lo st G) : VW X pc lo (vI x :: st) G := by
  subst he
  obtain ⟨⟨p, l, e, R, s, m, args, below, meth, c, Q⟩, ⟨z, b, n0, s0⟩, D, cy⟩ := X
  obtain ⟨hx, hb, hml, hown, hts, hK, hlk, hR, e1, e2, hz⟩ := hX
  intro H locs ls cells slots h1 h2 h3 h4 h5 h6
  exact lv_tableIn hx hb hd g1 g2 ho ht (k H locs ls cells slots h1 h2 h3 h4 h5 h6)
theorem v_tabOut (hX : CO X own cc nL d mc ms n1 s1) {dflt lw hi : Int} {offs : Array Int} {len : Nat} {x : Int32} {tgt : Nat} (hd : decode cc pc = .ok (.tableswitch dflt lw hi offs, len)) (g : x.toInt < lw ∨ hi < x.toInt) (ht : (pc : Int) + dflt = (tgt : Int)) (k : VW X tgt lo st G) : VW X pc lo (vI x :: st) G := by
  obtain ⟨⟨p, l, e, R, s, m, args, below, meth, c, Q⟩, ⟨z, b, n0, s0⟩, D, cy⟩ := X
  obtain ⟨hx, hb, hml, hown, hts, hK, hlk, hR, e1, e2, hz⟩ := hX
  intro H locs ls cells slots h1 h2 h3 h4 h5 h6
  exact lv_tableOut hx hb hd g ht (k H locs ls cells slots h1 h2 h3 h4 h5 h6)
theorem v_look (hX : CO X own cc nL d mc ms n1 s1) {dflt : Int} {ps : Array (Int × Int)} {len : Nat} {x : Int32} {off : Int} {tgt : Nat} (hd : decode cc pc = .ok (.lookupswitch dflt ps, len)) (hp : (ps.toList.zip (ps.toList.drop 1)).all (fun (a, next) => a.1 < next.1) = true) (ho : Op.lookupswitch.offset ps.toList dflt x.toInt = off) (ht : (pc : Int) + off = (tgt : Int)) (k : VW X tgt lo st G) : VW X pc lo (vI x :: st) G := by
  obtain ⟨⟨p, l, e, R, s, m, args, below, meth, c, Q⟩, ⟨z, b, n0, s0⟩, D, cy⟩ := X
  obtain ⟨hx, hb, hml, hown, hts, hK, hlk, hR, e1, e2, hz⟩ := hX
  intro H locs ls cells slots h1 h2 h3 h4 h5 h6
  exact lv_lookup hx hb hd hp ho ht (k H locs ls cells slots h1 h2 h3 h4 h5 h6)
end ROWS
end
section
section HEAP
variable {X : CX} {own : String} {cc : ByteArray} {nL d mc ms n1 s1 : Nat} {pc : Nat} {lo : List (Option AV)} {st : List AV} {G : GG}
theorem IH.addr {z b : Nat} {D : va_G} {cy : Nat → ClassId} {G : GG} {H : Heap} (h : IH z b D cy G H) {r : Nat} {s : Nat × Nat} (h2 : 2 ≤ r) (hs : G.1[r]? = some s) : z + (r - 2) < H.size := by
  have hl := (List.getElem?_eq_some_iff.mp hs).1
  have := h.1
  omega
/-- other cells stay -/
theorem IH.upd {z b : Nat} {D : va_G} {cy : Nat → ClassId} {G G' : GG} {H H1 : Heap} (h : IH z b D cy G H) {r : Nat} {s : Nat × Nat} (h2 : 2 ≤ r) (hs : G.1[r]? = some s) (hz : H1.size = H.size) (ho : ∀ q : Nat, q ≠ z + (r - 2) → H1[q]? = H[q]?) (e1 : G'.1 = G.1) (e2 : ∀ a i, a ≠ r → G'.2.1 a i = G.2.1 a i) (e3 : ∀ a i, a ≠ r → G'.2.2 a i = G.2.2 a i) (hc : cA z b D cy G' r s H1) : IH z b D cy G' H1 := by
  refine ⟨by rw [hz, e1]; exact h.1, by rw [e1]; exact h.2.1, fun r' s' h2' hs' => ?_⟩
  rw [e1] at hs'
  by_cases hr : r' = r
  · subst hr
    cases hs.symm.trans hs'
    exact hc
  · have hq : H1[z + (r' - 2)]? = H[z + (r' - 2)]? := ho _ (by omega)
    obtain ⟨c1, c2, c3⟩ := h.2.2 r' s' h2' hs'
    have f2 : ∀ i, G'.2.1 r' i = G.2.1 r' i := fun i => e2 r' i hr
    have f3 : ∀ i, G'.2.2 r' i = G.2.2 r' i := fun i => e3 r' i hr
    refine ⟨fun q => ?_, fun q => ?_, fun q => ?_⟩
    · obtain ⟨w, w1, w2⟩ := c1 q
      refine ⟨w, w1, (w2.kept hq).to fun k _ => ?_⟩
      unfold sV
      rw [f2, f3]
    · rw [hq, c2 q]
      simp only [f3]
    · rw [hq, c3 q]
      simp only [f2]
theorem sV_I {z b : Nat} {G : GG} {ci r k : Nat} (h : rsT ci k = false) : sV z b G ci r k = .int (G.2.2 r k) := by simp [sV, h]
theorem sV_R {z b : Nat} {G : GG} {ci r k : Nat} (h : rsT ci k = true) : sV z b G ci r k = cvR z b (G.2.1 r k) := by simp [sV, h]
/-- getfield, whatever is in it -/
theorem v_getV (hX : CO X own cc nL d mc ms n1 s1) {idx ci k r : Nat} (hf : FL own idx ci k) (h2 : 2 ≤ r) (hs : G.1[r]? = some (0, ci)) {v : AV} (hv : ∀ z b, sV z b G ci r k = cv z b v) (hd : decode cc pc = .ok (.getfield idx, 3)) (k : VW X (pc + 3) lo (v :: st) G) : VW X pc lo (vR r :: st) G := by
  obtain ⟨⟨p, l, e, R, s, m, args, below, meth, c, Q⟩, ⟨z, b, n0, s0⟩, D, cy⟩ := X
  obtain ⟨hx, hb, hml, hown, hts, hK, hlk, hR, e1, e2, hz⟩ := hX
  intro H locs ls cells slots h1 hh2 h3 h4 h5 h6
  have k := k H locs ls cells slots h1 hh2 h3 h4 h5 h6
  obtain ⟨q, hq, hkN, hlink⟩ := hf
  obtain ⟨q', hq', cell, c1, c2, c3, c4⟩ := (h1.2.2 r (0, ci) h2 hs).1 rfl
  cases hq.symm.trans hq'
  obtain ⟨hS, hfc, kC, hkC, hkind⟩ := hK.1.1 ci _ hq
  obtain ⟨cf, kf, fi, f, hi, hsl⟩ := hS _ hkN
  rw [show (vR r :: st).map (cv z b) = cvR z b r :: st.map (cv z b) from rfl, cvR_2 h2]
  refine W.getf hx hb hown (hts _ hlink) hi (u_facts hfc hkC (u_lays hts (CL_ok ci q hq).1 hkN) hi).1 c1 (by rw [c3]; exact fun h => by cases h) (v := cv z b v) ?_ rfl rfl hd k
  rw [hsl, c4 _ hkN]
  exact congrArg some (hv z b)
theorem v_getI (hX : CO X own cc nL d mc ms n1 s1) {idx ci k r : Nat} (hf : FL own idx ci k) (ht : rsT ci k = false) (h2 : 2 ≤ r) (hs : G.1[r]? = some (0, ci)) (hd : decode cc pc = .ok (.getfield idx, 3)) (k : VW X (pc + 3) lo (vI (G.2.2 r k) :: st) G) : VW X pc lo (vR r :: st) G :=
  v_getV hX hf h2 hs (v := vI (G.2.2 r _)) (fun z b => sV_I ht) hd k
theorem v_getR (hX : CO X own cc nL d mc ms n1 s1) {idx ci k r : Nat} (hf : FL own idx ci k) (ht : rsT ci k = true) (h2 : 2 ≤ r) (hs : G.1[r]? = some (0, ci)) (hd : decode cc pc = .ok (.getfield idx, 3)) (k : VW X (pc + 3) lo (vR (G.2.1 r k) :: st) G) : VW X pc lo (vR r :: st) G :=
  v_getV hX hf h2 hs (v := vR (G.2.1 r _)) (fun z b => sV_R ht) hd k
theorem v_putI (hX : CO X own cc nL d mc ms n1 s1) {idx ci k r : Nat} {x : Int32} (hf : FL own idx ci k) (ht : rsT ci k = false) (hfin : ∀ q : vw_C, CL[ci]? = some q → (q.2.1 k).2.2.2 = false) (h2 : 2 ≤ r) (hs : G.1[r]? = some (0, ci)) (hn : narrow (tyF ci k) (.int x) = .int x) (hfit : fits (tyF ci k) (.int x) = true) (hd : decode cc pc = .ok (.putfield idx, 3)) (k : VW X (pc + 3) lo st (sI G r k x)) : VW X pc lo (vI x :: vR r :: st) G := by
  obtain ⟨⟨p, l, e, R, s, m, args, below, meth, c, Q⟩, ⟨z, b, n0, s0⟩, D, cy⟩ := X
  obtain ⟨hx, hb, hml, hown, hts, hK, hlk, hR, e1, e2, hz⟩ := hX
  intro H locs ls cells slots h1 hh2 h3 h4 h5 h6
  rename_i kk
  obtain ⟨q, hq, hkN, hlink⟩ := hf
  obtain ⟨q', hq', cell, c1, c2, c3, c4⟩ := (h1.2.2 r (0, ci) h2 hs).1 rfl
  cases hq.symm.trans hq'
  obtain ⟨hin, hty, hnm⟩ := CL_ok ci q hq
  have hap := va_apart (own := own) (cl := CL) (D := D) hts hin (tyF ci) hty hnm hK.1 hq
  obtain ⟨hS, hfc, kC, hkC, hkind⟩ := hK.1.1 ci _ hq
  obtain ⟨cf, kf, fi, f, hi, hsl⟩ := hS _ hkN
  have hlay := hts _ (hin _ (u_in_lay hkN))
  unfold u_lay at hlay
  rw [if_neg (by rw [hfin q hq]; decide)] at hlay
  have hst := (u_facts hfc hkC (u_lays hts hin hkN) hi).1
  have hsd := u_store hfc hkC hkind hlay hi (hty _ hkN) hn hfit
  rw [show (vI x :: vR r :: st).map (cv z b) = .int x :: cvR z b r :: st.map (cv z b) from rfl, cvR_2 h2]
  refine W.putK hx hb (f := f) ⟨hown, hts _ hlink, ⟨_, _, _, hi⟩, hst⟩ (by rw [c2]; exact hsd) c1 c3 (by rw [hsl]; exact k2_hasslot (c4 _ hkN)) rfl rfl hd fun H' g1 g2 g3 => ?_
  rw [hsl] at g1 ⊢
  refine k H' _ ls cells slots (h1.upd (G' := sI G r kk x) h2 hs g2 g3 rfl (fun _ _ _ => rfl) (fun a i ha => by simp [sI, upM, ha]) ⟨fun _ => ⟨q, hq, ⟨_, g1, c2, c3, ?_⟩⟩, fun h => absurd h (by simp), fun h => absurd h (by simp)⟩) (fun a ha => (g3 a (Nat.ne_of_lt (Nat.lt_of_lt_of_le ha (Nat.le_add_right _ _)))).trans (hh2 a ha)) (fun a ha => ?_) h4 h5 h6
  · intro j hj
    rw [t_set c4 hap hkN _ j hj]
    congr 1
    unfold updV sV
    by_cases hjk : j = kk
    · subst hjk
      simp [ht, sI, upM]
    · simp [hjk, sI, upM]
  · rcases List.mem_append.mp ha with h | h
    · exact h3 a h
    · rw [List.mem_singleton.mp h]
      exact Nat.le_add_right _ _
def CI (X : CX) : Prop := match X with
  | ((p, l, e, R, s, m, args, below, meth, c, Q), (z, b, n0, s0), D, cy) => meth.name = "<init>"
theorem v_putF (hX : CO X own cc nL d mc ms n1 s1) (hI : CI X) {idx ci k r v : Nat} (hf : FL own idx ci k) (ht : rsT ci k = true) (hfin : ∀ q : vw_C, CL[ci]? = some q → (q.2.1 k).2.2.2 = true ∧ (q.2.1 k).1 = own) (h2 : 2 ≤ r) (hs : G.1[r]? = some (0, ci)) (h2v : 2 ≤ v) (hn : ∀ a, narrow (tyF ci k) (.ref a) = .ref a) (hfit : ∀ a, fits (tyF ci k) (.ref a) = true) (hd : decode cc pc = .ok (.putfield idx, 3)) (k : VW X (pc + 3) lo st (sR G r k v)) : VW X pc lo (vR v :: vR r :: st) G := by
  obtain ⟨⟨p, l, e, R, s, m, args, below, meth, c, Q⟩, ⟨z, b, n0, s0⟩, D, cy⟩ := X
  obtain ⟨hx, hb, hml, hown, hts, hK, hlk, hR, e1, e2, hz⟩ := hX
  intro H locs ls cells slots h1 hh2 h3 h4 h5 h6
  rename_i kk
  obtain ⟨q, hq, hkN, hlink⟩ := hf
  obtain ⟨q', hq', cell, c1, c2, c3, c4⟩ := (h1.2.2 r (0, ci) h2 hs).1 rfl
  cases hq.symm.trans hq'
  obtain ⟨hin, hty, hnm⟩ := CL_ok ci q hq
  have hap := va_apart (own := own) (cl := CL) (D := D) hts hin (tyF ci) hty hnm hK.1 hq
  obtain ⟨hS, hfc, kC, hkC, hkind⟩ := hK.1.1 ci _ hq
  obtain ⟨cf, kf, fi, f, hi, hsl⟩ := hS _ hkN
  have hlay := hts _ (hin _ (u_in_lay hkN))
  unfold u_lay at hlay
  rw [if_pos (hfin q hq).1] at hlay
  have hst := (u_facts hfc hkC (u_lays hts hin hkN) hi).1
  have hcf : m.cls = cf := by
    obtain ⟨_, _, c', _, _, _, -, -, hf', -, -, -, hown2, -⟩ := Cond.laysFinal_spec hlay
    have e1 : c' = cf := by have := hi.symm.trans hf'; simp at this; exact this.1.symm
    rw [(hfin q hq).2] at hown2
    rw [← e1]; exact Option.some.inj (hown.symm.trans hown2)
  have hsd := u_fits hfc hkC hkind (Or.inr hlay) hi (hty _ hkN) (hn (z + (v - 2))) (hfit (z + (v - 2)))
  rw [show (vR v :: vR r :: st).map (cv z b) = cvR z b v :: cvR z b r :: st.map (cv z b) from rfl, cvR_2 h2, cvR_2 h2v]
  refine W.putFinK hx hb hown (hts _ hlink) hi hst hcf hI (by rw [c2]; exact hsd) c1 c3 (by rw [hsl]; exact k2_hasslot (c4 _ hkN)) rfl rfl hd fun H' g1 g2 g3 => ?_
  rw [hsl] at g1 ⊢
  refine k H' _ ls cells slots (h1.upd (G' := sR G r kk v) h2 hs g2 g3 rfl (fun a i ha => by simp [sR, upM, ha]) (fun _ _ _ => rfl) ⟨fun _ => ⟨q, hq, ⟨_, g1, c2, c3, ?_⟩⟩, fun h => absurd h (by simp), fun h => absurd h (by simp)⟩) (fun a ha => (g3 a (Nat.ne_of_lt (Nat.lt_of_lt_of_le ha (Nat.le_add_right _ _)))).trans (hh2 a ha)) (fun a ha => ?_) h4 h5 h6
  · intro j hj
    rw [t_set c4 hap hkN _ j hj]
    congr 1
    unfold updV sV
    by_cases hjk : j = kk
    · subst hjk
      simp [ht, sR, upM, cvR_2 h2v]
    · simp [hjk, sR, upM]
  · rcases List.mem_append.mp ha with h | h
    · exact h3 a h
    · rw [List.mem_singleton.mp h]
      exact Nat.le_add_right _ _
theorem v_iald (hX : CO X own cc nL d mc ms n1 s1) {r n : Nat} {i : Int32} (h2 : 2 ≤ r) (hs : G.1[r]? = some (1, n)) (hi : vp_in i n) (hd : decode cc pc = .ok (.iaload, 1)) (k : VW X (pc + 1) lo (vI (G.2.2 r i.toNatClampNeg) :: st) G) : VW X pc lo (vI i :: vR r :: st) G := by
  obtain ⟨⟨p, l, e, R, s, m, args, below, meth, c, Q⟩, ⟨z, b, n0, s0⟩, D, cy⟩ := X
  obtain ⟨hx, hb, hml, hown, hts, hK, hlk, hR, e1, e2, hz⟩ := hX
  intro H locs ls cells slots h1 hh2 h3 h4 h5 h6
  have hc := (h1.2.2 r (1, n) h2 hs).2.1 rfl
  have hlt : i.toNatClampNeg < n := Nat.not_le.mp fun q => hi (Or.inr q)
  rw [show (vI i :: vR r :: st).map (cv z b) = .int i :: cvR z b r :: st.map (cv z b) from rfl, cvR_2 h2]
  exact W.iald (v := .int (G.2.2 r i.toNatClampNeg)) hx hb hc (hK.2.1 n _) (fun q => by cases q) (by rw [arrV_size]; exact hi) (by rw [arrV_read _ _ hlt]) rfl rfl hd (k H locs ls cells slots h1 hh2 h3 h4 h5 h6)
theorem v_iast (hX : CO X own cc nL d mc ms n1 s1) {r n : Nat} {i x : Int32} (h2 : 2 ≤ r) (hs : G.1[r]? = some (1, n)) (hi : vp_in i n) (hd : decode cc pc = .ok (.iastore, 1)) (k : VW X (pc + 1) lo st (sI G r i.toNatClampNeg x)) : VW X pc lo (vI x :: vI i :: vR r :: st) G := by
  obtain ⟨⟨p, l, e, R, s, m, args, below, meth, c, Q⟩, ⟨z, b, n0, s0⟩, D, cy⟩ := X
  obtain ⟨hx, hb, hml, hown, hts, hK, hlk, hR, e1, e2, hz⟩ := hX
  intro H locs ls cells slots h1 hh2 h3 h4 h5 h6
  have hc := (h1.2.2 r (1, n) h2 hs).2.1 rfl
  rw [show (vI x :: vI i :: vR r :: st).map (cv z b) = .int x :: .int i :: cvR z b r :: st.map (cv z b) from rfl, cvR_2 h2]
  refine W.iast hx hb hc (hK.2.1 n _) (fun q => by cases q) (by rw [arrV_size]; exact hi) rfl rfl hd fun H' g1 g2 g3 => ?_
  refine k H' _ ls cells slots (h1.upd (G' := sI G r i.toNatClampNeg x) h2 hs g2 g3 rfl (fun _ _ _ => rfl) (fun a j ha => by simp [sI, upM, ha]) ⟨fun h => absurd h (by simp), fun _ => ?_, fun h => absurd h (by simp)⟩) (fun a ha => (g3 a (Nat.ne_of_lt (Nat.lt_of_lt_of_le ha (Nat.le_add_right _ _)))).trans (hh2 a ha)) (fun a ha => ?_) h4 h5 h6
  · rw [g1, arrV_store]
    congr 2
    funext j
    by_cases hj : j = i.toNatClampNeg
    · simp [updV, sI, upM, hj]
    · simp [updV, sI, upM, hj]
  · rcases List.mem_append.mp ha with h | h
    · exact h3 a h
    · rw [List.mem_singleton.mp h]
      exact Nat.le_add_right _ _
theorem cy_ref {D : va_G} {cy : Nat → ClassId} {s : State} (hK : KK D cy s) {c : Nat} (hc : c = 0 ∨ c = 1 ∨ c = 5) : ArrOfT s (cy (c + 2 - 1)) (.object (cNm c)) ∧ va_RA s (cy (c + 2 - 1)) (.object (cNm c)) ∧ va_AO (cNm c) s := hK.2.2.2.1 c hc
theorem v_aald (hX : CO X own cc nL d mc ms n1 s1) {r c n : Nat} {i : Int32} (hcc : c = 0 ∨ c = 1 ∨ c = 5) (h2 : 2 ≤ r) (hs : G.1[r]? = some (c + 2, n)) (hi : vp_in i n) (hd : decode cc pc = .ok (.aaload, 1)) (k : VW X (pc + 1) lo (vR (G.2.1 r i.toNatClampNeg) :: st) G) : VW X pc lo (vI i :: vR r :: st) G := by
  obtain ⟨⟨p, l, e, R, s, m, args, below, meth, c, Q⟩, ⟨z, b, n0, s0⟩, D, cy⟩ := X
  obtain ⟨hx, hb, hml, hown, hts, hK, hlk, hR, e1, e2, hz⟩ := hX
  intro H locs ls cells slots h1 hh2 h3 h4 h5 h6
  have hc := (h1.2.2 r (_, n) h2 hs).2.2 (Nat.le_add_left 2 _)
  have hlt : i.toNatClampNeg < n := Nat.not_le.mp fun q => hi (Or.inr q)
  rw [show (vI i :: vR r :: st).map (cv z b) = .int i :: cvR z b r :: st.map (cv z b) from rfl, cvR_2 h2]
  exact W.aald (v := cvR z b (G.2.1 r i.toNatClampNeg)) hx hb hc ((cy_ref hK hcc).1 n _) rfl (fun q => by cases q) (by rw [arrV_size]; exact hi) (by rw [arrV_read _ _ hlt]) rfl rfl hd (k H locs ls cells slots h1 hh2 h3 h4 h5 h6)
theorem v_aast (hX : CO X own cc nL d mc ms n1 s1) {r v c n : Nat} {i : Int32} (hcc : c = 0 ∨ c = 1 ∨ c = 5) (h2 : 2 ≤ r) (hs : G.1[r]? = some (c + 2, n)) (h2v : 2 ≤ v) (hsv : G.1[v]? = some (0, c)) (hi : vp_in i n) (hd : decode cc pc = .ok (.aastore, 1)) (k : VW X (pc + 1) lo st (sR G r i.toNatClampNeg v)) : VW X pc lo (vR v :: vI i :: vR r :: st) G := by
  obtain ⟨⟨p, l, e, R, s, m, args, below, meth, co, Q⟩, ⟨z, b, n0, s0⟩, D, cy⟩ := X
  obtain ⟨hx, hb, hml, hown, hts, hK, hlk, hR, e1, e2, hz⟩ := hX
  intro H locs ls cells slots h1 hh2 h3 h4 h5 h6
  have hc := (h1.2.2 r (_, n) h2 hs).2.2 (Nat.le_add_left 2 _)
  have hlt : i.toNatClampNeg < n := Nat.not_le.mp fun q => hi (Or.inr q)
  have h0 : ¬ i < 0 := fun q => hi (Or.inl q)
  obtain ⟨q, hq, cellV, g1, g2, g3, -⟩ := (h1.2.2 v (0, c) h2v hsv).1 rfl
  have hcls := (hK.1.1 c q hq).2
  have hnm : cNm c = q.1 := by simp [cNm, hq]
  have hra := (cy_ref hK hcc).2.1
  rw [hnm] at hra
  obtain ⟨kA, comp, k1, k2, k3, -⟩ := hra
  have hcomp : comp = D.1 c := Option.some.inj (k3.symm.trans hcls.1)
  subst hcomp
  obtain ⟨kC, hkC, -⟩ := hcls.2
  rw [show (vR v :: vI i :: vR r :: st).map (cv z b) = cvR z b v :: .int i :: cvR z b r :: st.map (cv z b) from rfl, cvR_2 h2, cvR_2 h2v]
  refine W.aast hx hb hc (fun q h => by cases h) (fun h => by cases h) k1 k2 rfl hkC ⟨h0, by rw [arrV_size]; exact hlt⟩ g1 (fun q h => by rw [g3] at h; cases h) (by rw [g2]; exact hkC) (by rw [g2]; exact va_assign hcls) rfl rfl hd fun H' f1 f2 f3 => ?_
  refine k H' _ ls cells slots (h1.upd (G' := sR G r i.toNatClampNeg v) h2 hs f2 f3 rfl (fun a j ha => by simp [sR, upM, ha]) (fun _ _ _ => rfl) ⟨fun h => absurd h (by simp), fun h => absurd h (by simp), fun _ => ?_⟩) (fun a ha => (f3 a (Nat.ne_of_lt (Nat.lt_of_lt_of_le ha (Nat.le_add_right _ _)))).trans (hh2 a ha)) (fun a ha => ?_) h4 h5 h6
  · rw [f1, arrV_store]
    congr 2
    funext j
    by_cases hj : j = i.toNatClampNeg
    · simp [updV, sR, upM, hj, cvR_2 h2v]
    · simp [updV, sR, upM, hj]
  · rcases List.mem_append.mp ha with h | h
    · exact h3 a h
    · rw [List.mem_singleton.mp h]
      exact Nat.le_add_right _ _
theorem v_alen (hX : CO X own cc nL d mc ms n1 s1) {r n : Nat} {v : Int32} (h2 : 2 ≤ r) (hs : G.1[r]? = some (1, n)) (hv : Int32.ofNat n = v) (hd : decode cc pc = .ok (.arraylength, 1)) (k : VW X (pc + 1) lo (vI v :: st) G) : VW X pc lo (vR r :: st) G := by
  obtain ⟨⟨p, l, e, R, s, m, args, below, meth, c, Q⟩, ⟨z, b, n0, s0⟩, D, cy⟩ := X
  obtain ⟨hx, hb, hml, hown, hts, hK, hlk, hR, e1, e2, hz⟩ := hX
  intro H locs ls cells slots h1 hh2 h3 h4 h5 h6
  have hc := (h1.2.2 r (1, n) h2 hs).2.1 rfl
  rw [show (vR r :: st).map (cv z b) = cvR z b r :: st.map (cv z b) from rfl, cvR_2 h2]
  exact W.alen (n := v) hx hb hc (hK.2.1 n _) (by rw [arrV_size]; exact hv) rfl rfl hd (k H locs ls cells slots h1 hh2 h3 h4 h5 h6)
theorem v_max (hX : CO X own cc nL d mc ms n1 s1) {idx : Nat} {x y : Int32} (hl : Cond.methodLink own idx Lib.Math.max.name ∈ GW) (hlo : lo.length = nL) (hrm : 1 ≤ d ∧ (st.map catA).sum ≤ 8 ∧ gC G ≤ n1 + mc ∧ gS G ≤ s1 + ms) (hd : decode cc pc = .ok (.invokestatic idx, 3)) (k : VW X (pc + 3) lo (vI (if x < y then y else x) :: st) G) : VW X pc lo (vI y :: vI x :: st) G := by
  obtain ⟨⟨p, l, e, R, s, m, args, below, meth, c, Q⟩, ⟨z, b, n0, s0⟩, D, cy⟩ := X
  obtain ⟨hx, hb, hml, hown, hts, hK, hlk, hR, e1, e2, hz⟩ := hX
  intro H locs ls cells slots h1 hh2 h3 h4 h5 h6
  have hsum : ((st.map (cv z b)).map fun v => v.category).sum = (st.map catA).sum := by
    rw [List.map_map]
    congr 1
    apply List.map_congr_left
    intro v _
    exact cv_cat z b v
  exact va_mmax hx hb (by rw [hml, h6.1, hlo]) hown (hts _ hl) (hts _ ks_max) (hts _ ii_jM) (hts _ k_max) (by omega) (by rw [hsum]; omega) (by omega) (by omega) hd (k H locs ls cells slots h1 hh2 h3 h4 h5 h6)
theorem v_objInit (hX : CO X own cc nL d mc ms n1 s1) {idx r : Nat} (hl : Cond.methodLink own idx objectInit ∈ GW) (hlo : lo.length = nL) (hrm : 1 ≤ d ∧ (st.map catA).sum ≤ 8) (h2 : 2 ≤ r) (hd : decode cc pc = .ok (.invokespecial idx, 3)) (k : VW X (pc + 3) lo st G) : VW X pc lo (vR r :: st) G := by
  obtain ⟨⟨p, l, e, R, s, m, args, below, meth, c, Q⟩, ⟨z, b, n0, s0⟩, D, cy⟩ := X
  obtain ⟨hx, hb, hml, hown, hts, hK, hlk, hR, e1, e2, hz⟩ := hX
  intro H locs ls cells slots h1 hh2 h3 h4 h5 h6
  have hsum : ((st.map (cv z b)).map fun v => v.category).sum = (st.map catA).sum := by
    rw [List.map_map]
    congr 1
    apply List.map_congr_left
    intro v _
    exact cv_cat z b v
  rw [show (vR r :: st).map (cv z b) = cvR z b r :: st.map (cv z b) from rfl, cvR_2 h2]
  refine W.objInit hx hb hown (hts _ hl) (hts _ ki_obj) (hts _ k_obj) rfl (by show ls.size = _; rw [hml, h6.1, hlo]) rfl hd (by omega) (by show 2 * 0 + _ + 12 ≤ _; rw [hsum]; omega) (k H locs ls cells slots h1 hh2 h3 h4 h5 h6)
end HEAP
end
section
/-! Contracts over the abstract frame, calls and returns. -/
def QA (z b : Nat) (D : va_G) (cy : Nat → ClassId) (P : Option AV → GG → Prop) : Array Value → State → Outcome → State → Prop :=
  fun _ st oc t => ∃ (r : Option AV) (G' : GG), oc = .returned (r.map (cv z b)) ∧ P r G' ∧ IH z b D cy G' t.heap ∧ ∀ q : Nat, q < z → t.heap[q]? = st.heap[q]?
def PA (z b : Nat) (D : va_G) (cy : Nat → ClassId) (as : List AV) (G : GG) : Array Value → State → Prop :=
  fun v U => v = (as.map (cv z b)).toArray ∧ IH z b D cy G U.heap ∧ KK D cy U
def rmA (d mc ms : Nat) : Room := { frames := d, cells := mc, slots := ms, locals := 40 * d }
def AMet (y : MethodName) (cc : ByteArray) (nL : Nat) (ret : Option FieldType) (d mc ms : Nat) (as : List AV) (G : GG) (P : Option AV → GG → Prop) : Prop :=
  ∀ (l : Launch) (z b : Nat) (D : va_G) (cy : Nat → ClassId), Met l y (Cond.code y cc nL ret :: GW) (rmA d mc ms) (PA z b D cy as G) (QA z b D cy P) mc ms (fun q => z ≤ q)
def RT (X : CX) (ret : Option FieldType) (mc ms : Nat) (P : Option AV → GG → Prop) : Prop := match X with
  | ((p, l, e, R, s, m, args, below, meth, c, Q), (z, b, n0, s0), D, cy) => meth.sig.returnType = ret ∧ Q = MQ below (QA z b D cy P) args s mc ms (fun q => z ≤ q)
def ent : List AV → List (Option AV)
  | [] => []
  | .inl x :: t => some (.inl x) :: ent t
  | .inr (.inl x) :: t => some (.inr (.inl x)) :: none :: ent t
  | .inr (.inr x) :: t => some (.inr (.inr x)) :: ent t
theorem asc_none (z b : Nat) : ∀ (n i : Nat), asc z b i (List.replicate n none) = []
  | 0, _ => rfl
  | n + 1, i => asc_none z b n (i + 1)
theorem asc_ent (z b n : Nat) : ∀ (as : List AV) (i : Nat), asc z b i (ent as ++ List.replicate n none) = lv_args i (as.map (cv z b))
  | [], i => asc_none z b n i
  | .inl x :: t, i => by
    show (i, cv z b (.inl x)) :: asc z b (i + 1) (ent t ++ List.replicate n none) = (i, cv z b (.inl x)) :: lv_args (i + 1) (t.map (cv z b))
    rw [asc_ent z b n t]
  | .inr (.inl x) :: t, i => by
    show (i, cv z b (.inr (.inl x))) :: asc z b (i + 2) (ent t ++ List.replicate n none) = (i, cv z b (.inr (.inl x))) :: lv_args (i + 2) (t.map (cv z b))
    rw [asc_ent z b n t]
  | .inr (.inr x) :: t, i => by
    show (i, cv z b (.inr (.inr x))) :: asc z b (i + 1) (ent t ++ List.replicate n none) = (i, cv z b (.inr (.inr x))) :: lv_args (if (cvR z b x).category = 2 then i + 2 else i + 1) (t.map (cv z b))
    rw [asc_ent z b n t, if_neg (by rw [cvR_cat]; decide)]
theorem ent_len (z b : Nat) : ∀ (as : List AV), (lg_sl (as.map (cv z b))).length = (ent as).length
  | [] => rfl
  | .inl x :: t => by
    have h := ent_len z b t
    simp only [lg_sl, List.map_cons, List.flatMap_cons] at h ⊢
    rw [if_neg (by rw [cv_cat]; simp [catA]), List.length_append, h]
    simp [ent]; omega
  | .inr (.inl x) :: t => by
    have h := ent_len z b t
    simp only [lg_sl, List.map_cons, List.flatMap_cons] at h ⊢
    rw [if_pos (by rw [cv_cat]; simp [catA]), List.length_append, h]
    simp [ent]; omega
  | .inr (.inr x) :: t => by
    have h := ent_len z b t
    simp only [lg_sl, List.map_cons, List.flatMap_cons] at h ⊢
    rw [if_neg (by rw [cv_cat]; simp [catA]), List.length_append, h]
    simp [ent]; omega
theorem IH.zle {z b : Nat} {D : va_G} {cy : Nat → ClassId} {G : GG} {H : Heap} (h : IH z b D cy G H) : z ≤ H.size := by
  have h1 := h.1
  have h2 := h.2.1
  omega
/-- a contract out of the walk of the body -/
theorem AMet.of {y : MethodName} {cc : ByteArray} {nL : Nat} {ret : Option FieldType} {n d mc ms : Nat} {as : List AV} {G : GG} {P : Option AV → GG → Prop} (hk : YI y cc nL ret n) {lo : List (Option AV)} (hlo : ent as ++ List.replicate (nL - (ent as).length) none = lo) (hle : (ent as).length ≤ nL)
    (body : ∀ X : CX, CO X y.cls cc nL d mc ms (gC G) (gS G) → RT X ret mc ms P → (y.name = "<init>" → CI X) → VW X 0 lo [] G) : AMet y cc nL ret d mc ms as G P := by
  intro l z b D cy
  refine Met.ofW (cc := cc) (maxL := nL) (ret := ret) hk.2.2.2 rfl ?_
  intro p e s m args below meth c s₁ B hml hv
  obtain ⟨rfl, hI, hK⟩ := hv
  have hts := atoms_spec (ws := Cond.code y cc nL ret :: GW) B.pre
  have hown : s.vm.findClass y.cls = some m.cls := findClass_of_methodNamed B.named
  have hl := lv_entry (as.map (cv z b)) (n := nL) (by rw [ent_len]; exact hle)
  rw [lg_entry_eq]
  have h := body ((p, l, e, rmA d mc ms, s, m, (as.map (cv z b)).toArray, below, meth, c, MQ below (QA z b D cy P) (as.map (cv z b)).toArray s mc ms (fun q => z ≤ q)), (z, b, gC G, gS G), D, cy)
    ⟨B.exec, B.bytes, hml, hown, fun w hw => hts w (List.mem_cons_of_mem _ hw), hK, B.notSynchronized, ⟨Nat.le_refl _, Nat.le_refl _, Nat.le_refl _, Nat.le_refl _⟩, rfl, rfl, hI.zle⟩ ⟨B.returns, rfl⟩
    (fun hn => (name_of_methodNamed B.named B.method).1.trans hn)
  refine h s.heap [] _ 0 0 hI (fun _ _ => rfl) (fun _ h => by cases h) (Nat.zero_add _) (Nat.zero_add _) ?_
  unfold LR
  rw [← hlo, asc_ent, List.length_append, List.length_replicate, show (ent as).length + (nL - (ent as).length) = nL by omega]
  exact hl
section CALLS
variable {X : CX} {own : String} {cc : ByteArray} {nL d mc ms n1 s1 : Nat} {pc : Nat} {lo : List (Option AV)} {st : List AV} {G : GG}
theorem v_iret (hX : CO X own cc nL d mc ms n1 s1) {P : Option AV → GG → Prop} (hR : RT X (some .int) mc ms P) {v : Int32} (hC : gC G = n1 + mc) (hS : gS G = s1 + ms) (hp : P (some (vI v)) G) (hd : decode cc pc = .ok (.ireturn, 1)) : VW X pc lo [vI v] G := by
  obtain ⟨⟨p, l, e, R, s, m, args, below, meth, c, Q⟩, ⟨z, b, n0, s0⟩, D, cy⟩ := X
  obtain ⟨hx, hb, hml, hown, hts, hK, hlk, hRm, e1, e2, hz⟩ := hX
  obtain ⟨hr, hQ⟩ := hR
  intro H locs ls cells slots h1 h2 h3 h4 h5 h6
  obtain rfl : cells = mc := by omega
  obtain rfl : slots = ms := by omega
  subst hQ
  exact W.iret hx hb hr (fun t ht hW => ⟨_, G, rfl, hp, by rw [ht]; exact h1, by rw [ht]; exact h2⟩) h3 hd hlk
theorem v_zret (hX : CO X own cc nL d mc ms n1 s1) {P : Option AV → GG → Prop} (hR : RT X (some .boolean) mc ms P) {v : Int32} (hn : narrow .boolean (.int v) = .int v) (hC : gC G = n1 + mc) (hS : gS G = s1 + ms) (hp : P (some (vI v)) G) (hd : decode cc pc = .ok (.ireturn, 1)) : VW X pc lo [vI v] G := by
  obtain ⟨⟨p, l, e, R, s, m, args, below, meth, c, Q⟩, ⟨z, b, n0, s0⟩, D, cy⟩ := X
  obtain ⟨hx, hb, hml, hown, hts, hK, hlk, hRm, e1, e2, hz⟩ := hX
  obtain ⟨hr, hQ⟩ := hR
  intro H locs ls cells slots h1 h2 h3 h4 h5 h6
  obtain rfl : cells = mc := by omega
  obtain rfl : slots = ms := by omega
  subst hQ
  exact W.zret hx hb hr hn (fun t ht hW => ⟨_, G, rfl, hp, by rw [ht]; exact h1, by rw [ht]; exact h2⟩) h3 hd hlk
theorem v_lret (hX : CO X own cc nL d mc ms n1 s1) {P : Option AV → GG → Prop} (hR : RT X (some .long) mc ms P) {v : Int64} (hC : gC G = n1 + mc) (hS : gS G = s1 + ms) (hp : P (some (vL v)) G) (hd : decode cc pc = .ok (.lreturn, 1)) : VW X pc lo [vL v] G := by
  obtain ⟨⟨p, l, e, R, s, m, args, below, meth, c, Q⟩, ⟨z, b, n0, s0⟩, D, cy⟩ := X
  obtain ⟨hx, hb, hml, hown, hts, hK, hlk, hRm, e1, e2, hz⟩ := hX
  obtain ⟨hr, hQ⟩ := hR
  intro H locs ls cells slots h1 h2 h3 h4 h5 h6
  obtain rfl : cells = mc := by omega
  obtain rfl : slots = ms := by omega
  subst hQ
  exact W.lret hx hb hr (fun t ht hW => ⟨_, G, rfl, hp, by rw [ht]; exact h1, by rw [ht]; exact h2⟩) h3 hd hlk
theorem v_vret (hX : CO X own cc nL d mc ms n1 s1) {P : Option AV → GG → Prop} (hR : RT X none mc ms P) (hC : gC G = n1 + mc) (hS : gS G = s1 + ms) (hp : P none G) (hd : decode cc pc = .ok (.return_, 1)) : VW X pc lo [] G := by
  obtain ⟨⟨p, l, e, R, s, m, args, below, meth, c, Q⟩, ⟨z, b, n0, s0⟩, D, cy⟩ := X
  obtain ⟨hx, hb, hml, hown, hts, hK, hlk, hRm, e1, e2, hz⟩ := hX
  obtain ⟨hr, hQ⟩ := hR
  intro H locs ls cells slots h1 h2 h3 h4 h5 h6
  obtain rfl : cells = mc := by omega
  obtain rfl : slots = ms := by omega
  subst hQ
  exact W.vret hx hb hr (fun t ht hW => ⟨none, G, rfl, hp, by rw [ht]; exact h1, by rw [ht]; exact h2⟩) h3 hd hlk
theorem v_aret (hX : CO X own cc nL d mc ms n1 s1) {P : Option AV → GG → Prop} {cn : String} (hR : RT X (some (.object cn)) mc ms P) {r : Nat} (hC : gC G = n1 + mc) (hS : gS G = s1 + ms) (hp : P (some (vR r)) G) (hd : decode cc pc = .ok (.areturn, 1)) : VW X pc lo [vR r] G := by
  obtain ⟨⟨p, l, e, R, s, m, args, below, meth, c, Q⟩, ⟨z, b, n0, s0⟩, D, cy⟩ := X
  obtain ⟨hx, hb, hml, hown, hts, hK, hlk, hRm, e1, e2, hz⟩ := hX
  obtain ⟨hr, hQ⟩ := hR
  intro H locs ls cells slots h1 h2 h3 h4 h5 h6
  obtain rfl : cells = mc := by omega
  obtain rfl : slots = ms := by omega
  subst hQ
  exact W.aret (v := cvR z b r) hx hb hr (Or.inl ⟨_, rfl⟩) (cvR_or z b r) (fun t ht hW => ⟨some (vR r), G, rfl, hp, by rw [ht]; exact h1, by rw [ht]; exact h2⟩) h3 hd hlk
theorem PA.blind (z b : Nat) (D : va_G) (cy : Nat → ClassId) (as : List AV) (G : GG) : FrameBlind (PA z b D cy as G) := fun a U g mk h => ⟨h.1, h.2.1, h.2.2.same rfl⟩
theorem back_run {p : Program} {l : Launch} {e : Env} {R : Room} {s : State} {m : MethodId} {args : Array Value} {below : List Frame} {meth : Method} {c : Code} {H : Heap} {locs : List Loc} {cells slots mc' ms' : Nat} {Q : State → Prop} {z b : Nat} {D : va_G} {cy : Nat → ClassId} {P : Option AV → GG → Prop} {ls : Array Slot} {st0 rest : List Value} {a : Array Value}
    (hr : va_Run p l e R s m args below meth c H locs cells slots mc' ms' (F0 m pc ls st0) rest (QA z b D cy P a) (fun q => z ≤ q)) (hlocs : ∀ q ∈ locs, z ≤ q.base)
    (kk : ∀ (r : Option AV) (G' : GG) (H1 : Heap) (locs1 : List Loc), P r G' → IH z b D cy G' H1 → (∀ q : Nat, q < z → H1[q]? = H[q]?) → (∀ q ∈ locs1, z ≤ q.base) → W p l e R s m args below meth c H1 locs1 (cells + mc') (slots + ms') Q (F0 m (pc + 3) ls ((r.map (cv z b)).toList ++ rest))) : W p l e R s m args below meth c H locs cells slots Q (F0 m pc ls st0) := by
  intro T hT X
  obtain ⟨v, st₀, t, T', L, h0, X', hL, e1, e2, ⟨r, G', hv, hp, hI, hk⟩, st⟩ := hr T hT X
  cases hv
  rw [h0] at hk
  obtain ⟨t2, a1, b1⟩ := kk r G' T'.heap (locs ++ L) hp (by rw [e1]; exact hI) (fun q hq => by rw [e1]; exact hk q hq) (fun q hq => by
      rcases List.mem_append.mp hq with h | h
      · exact hlocs q h
      · exact hL q h) T' rfl X'
  exact ⟨t2, st t2 a1, b1⟩
theorem catsum (z b : Nat) (st : List AV) : ((st.map (cv z b)).map fun v => v.category).sum = (st.map catA).sum := by
  rw [List.map_map]
  congr 1
  apply List.map_congr_left
  intro v _
  exact cv_cat z b v
/-- room for a call: the callee's frames, what lies below on the stack, what it makes -/
def RM (d d' maxL : Nat) (st : List AV) (G : GG) (mc' ms' n1 s1 mc ms : Nat) : Prop := d' + 1 ≤ d ∧ maxL ≤ 21 ∧ (st.map catA).sum ≤ 8 ∧ gC G + mc' ≤ n1 + mc ∧ gS G + ms' ≤ s1 + ms
theorem v_callS (hX : CO X own cc nL d mc ms n1 s1) {y : MethodName} {bytes : ByteArray} {maxL n idx d' mc' ms' : Nat} {ret : Option FieldType} {as S : List AV} {P : Option AV → GG → Prop} (hk : YI y bytes maxL ret n) (hs : Cond.static y ∈ GW) (hl : Cond.methodLink own idx y ∈ GW) (hM : AMet y bytes maxL ret d' mc' ms' as G P) (hst : S = as.reverse ++ st) (hn : as.length = n) (hlo : lo.length = nL) (hrm : RM d d' maxL st G mc' ms' n1 s1 mc ms)
    (hP : ∀ r G', P r G' → gC G' = gC G + mc' ∧ gS G' = gS G + ms') (hd : decode cc pc = .ok (.invokestatic idx, 3)) (k : ∀ r G', P r G' → VW X (pc + 3) lo (r.toList ++ st) G') : VW X pc lo S G := by
  subst hst
  obtain ⟨⟨p, l, e, R, s, m, args, below, meth, c, Q⟩, ⟨z, b, n0, s0⟩, D, cy⟩ := X
  obtain ⟨hx, hb, hml, hown, hts, hK, hlk, hRm, e1, e2, hz⟩ := hX
  obtain ⟨r1, r2, r3, r4, r5⟩ := hrm
  intro H locs ls cells slots h1 h2 h3 h4 h5 h6
  have hcb := callB_of (R := R) (s := s) (args := args) (own := own) (index := idx) (rm := rmA d' mc' ms') (mc := mc') (ms := ms') (ws := Cond.code y bytes maxL ret :: GW) n hts (fun w hw => by
      rcases List.mem_cons.mp hw with h | h
      · rw [h]; exact GW_good _ hk.1
      · exact GW_good _ h) rfl rfl rfl (hts _ hk.2.1) (hts _ hl) hk.2.2.1 ⟨by show d' + 1 ≤ _; omega, by show 8 + (maxL + 11) + 40 * d' ≤ _; omega⟩
  have hrun := va_runS (e := e) (below := below) (meth := meth) (locs := locs) (cells := cells) (slots := slots) (g := F0 m pc ls ((as.reverse ++ st).map (cv z b))) (rest := st.map (cv z b)) ⟨hx, hb, hml, hown, hts⟩ (hM l z b D cy) ⟨hcb, hts _ hs⟩ (As := as.map (cv z b)) (H := H) ⟨PA.blind z b D cy as G, fun U hU hW => ⟨rfl, by rw [hU]; exact h1, hK.warm hW⟩⟩ rfl (by rw [List.length_map]; exact hn) (show ls.size = nL by rw [h6.1, hlo]) (by show (as.reverse ++ st).map (cv z b) = _; rw [List.map_append, List.map_reverse]) (by show 2 * 0 + _ ≤ 8; rw [catsum]; omega) hd ⟨by omega, by omega⟩
  refine back_run hrun h3 fun r G' H1 locs1 hp hI hq hL => ?_
  obtain ⟨c1, c2⟩ := hP r G' hp
  have := k r G' hp H1 locs1 ls (cells + mc') (slots + ms') hI (fun q hq' => (hq q hq').trans (h2 q hq')) hL (by omega) (by omega) h6
  rw [List.map_append] at this
  rw [show (r.map (cv z b)).toList = r.toList.map (cv z b) by cases r <;> rfl]
  exact this
theorem v_callN (hX : CO X own cc nL d mc ms n1 s1) {bytes : ByteArray} {maxL n idx d' mc' ms' : Nat} {ret : Option FieldType} {as S : List AV} {P : Option AV → GG → Prop} (hk : YI y_LJ_isBelow bytes maxL ret n) (hs : Cond.static y_LJ_isBelow ∈ GW) (hq : (own, idx) ∈ NWs) (hM : AMet y_LJ_isBelow bytes maxL ret d' mc' ms' as G P) (hst : S = as.reverse ++ st) (hn : as.length = n) (hlo : lo.length = nL) (hrm : RM d d' maxL st G mc' ms' n1 s1 mc ms)
    (hP : ∀ r G', P r G' → gC G' = gC G + mc' ∧ gS G' = gS G + ms') (hd : decode cc pc = .ok (.invokestatic idx, 3)) (k : ∀ r G', P r G' → VW X (pc + 3) lo (r.toList ++ st) G') : VW X pc lo S G := by
  subst hst
  obtain ⟨⟨p, l, e, R, s, m, args, below, meth, c, Q⟩, ⟨z, b, n0, s0⟩, D, cy⟩ := X
  obtain ⟨hx, hb, hml, hown, hts, hK, hlk, hRm, e1, e2, hz⟩ := hX
  obtain ⟨r1, r2, r3, r4, r5⟩ := hrm
  intro H locs ls cells slots h1 h2 h3 h4 h5 h6
  have hcb := va_cnB (R := R) (s := s) (args := args) (own := own) (index := idx) (rm := rmA d' mc' ms') (mc := mc') (ms := ms') (ws := Cond.code y_LJ_isBelow bytes maxL ret :: GW) n hts (fun w hw => by
      rcases List.mem_cons.mp hw with h | h
      · rw [h]; exact GW_good _ hk.1
      · exact GW_good _ h) rfl rfl rfl (hK.2.2.2.2 _ hq) (hts _ hk.2.1) hk.2.2.1 ⟨by show d' + 1 ≤ _; omega, by show 8 + (maxL + 11) + 40 * d' ≤ _; omega⟩
  have hrun := va_runSN (e := e) (below := below) (meth := meth) (locs := locs) (cells := cells) (slots := slots) (g := F0 m pc ls ((as.reverse ++ st).map (cv z b))) (rest := st.map (cv z b)) ⟨hx, hb, hml, hown, hts⟩ (hM l z b D cy) ⟨hcb, hts _ hs, trivial⟩ (As := as.map (cv z b)) (H := H) ⟨PA.blind z b D cy as G, fun U hU hW => ⟨rfl, by rw [hU]; exact h1, hK.warm hW⟩⟩ rfl (by rw [List.length_map]; exact hn) (show ls.size = nL by rw [h6.1, hlo]) (by show (as.reverse ++ st).map (cv z b) = _; rw [List.map_append, List.map_reverse]) (by show 2 * 0 + _ ≤ 8; rw [catsum]; omega) hd ⟨by omega, by omega⟩
  refine back_run hrun h3 fun r G' H1 locs1 hp hI hq hL => ?_
  obtain ⟨c1, c2⟩ := hP r G' hp
  have := k r G' hp H1 locs1 ls (cells + mc') (slots + ms') hI (fun q hq' => (hq q hq').trans (h2 q hq')) hL (by omega) (by omega) h6
  rw [List.map_append] at this
  rw [show (r.map (cv z b)).toList = r.toList.map (cv z b) by cases r <;> rfl]
  exact this
theorem v_callV (hX : CO X own cc nL d mc ms n1 s1) {y : MethodName} {C : String} {bytes : ByteArray} {maxL n idx d' mc' ms' r ci : Nat} {ret : Option FieldType} {as S : List AV} {P : Option AV → GG → Prop} (hk : YI y bytes maxL ret n) (hi : Cond.instanceMethod y ∈ GW) (hs : Cond.selects C y y ∈ GW) (hl : Cond.methodLink own idx y ∈ GW) (hM : AMet y bytes maxL ret d' mc' ms' (vR r :: as) G P) (h2r : 2 ≤ r) (hsr : G.1[r]? = some (0, ci)) (hC : ∀ q : vw_C, CL[ci]? = some q → q.1 = C) (hst : S = as.reverse ++ vR r :: st) (hn : as.length = n) (hlo : lo.length = nL) (hrm : RM d d' maxL st G mc' ms' n1 s1 mc ms)
    (hP : ∀ r G', P r G' → gC G' = gC G + mc' ∧ gS G' = gS G + ms') (hd : decode cc pc = .ok (.invokevirtual idx, 3)) (k : ∀ r G', P r G' → VW X (pc + 3) lo (r.toList ++ st) G') : VW X pc lo S G := by
  subst hst
  obtain ⟨⟨p, l, e, R, s, m, args, below, meth, c, Q⟩, ⟨z, b, n0, s0⟩, D, cy⟩ := X
  obtain ⟨hx, hb, hml, hown, hts, hK, hlk, hRm, e1, e2, hz⟩ := hX
  obtain ⟨r1, r2, r3, r4, r5⟩ := hrm
  intro H locs ls cells slots h1 h2 h3 h4 h5 h6
  have hcb := callB_of (R := R) (s := s) (args := args) (own := own) (index := idx) (rm := rmA d' mc' ms') (mc := mc') (ms := ms') (ws := Cond.code y bytes maxL ret :: GW) n hts (fun w hw => by
      rcases List.mem_cons.mp hw with h | h
      · rw [h]; exact GW_good _ hk.1
      · exact GW_good _ h) rfl rfl rfl (hts _ hk.2.1) (hts _ hl) hk.2.2.1 ⟨by show d' + 1 ≤ _; omega, by show 8 + (maxL + 11) + 40 * d' ≤ _; omega⟩
  obtain ⟨q, hq, cell, c1, c2, c3, c4⟩ := (h1.2.2 r (0, ci) h2r hsr).1 rfl
  have hfc := (hK.1.1 ci q hq).2.1
  rw [hC q hq] at hfc
  have hrun := va_runV (e := e) (below := below) (meth := meth) (locs := locs) (cells := cells) (slots := slots) (C := C) (g := F0 m pc ls ((as.reverse ++ vR r :: st).map (cv z b))) (rest := st.map (cv z b)) ⟨hx, hb, hml, hown, hts⟩ (hM l z b D cy) ⟨hcb, hts _ hi, hts _ hs⟩ (As := as.map (cv z b)) (H := H) (b := z + (r - 2)) ⟨PA.blind z b D cy _ G, ⟨cell, c1, by rw [c3]; rfl, by rw [c2]; exact hfc⟩, fun U hU hW => ⟨by rw [List.map_cons, show cv z b (vR r) = cvR z b r from rfl, cvR_2 h2r], by rw [hU]; exact h1, hK.warm hW⟩⟩ rfl (by rw [List.length_map]; exact hn) (show ls.size = nL by rw [h6.1, hlo]) (by show (as.reverse ++ vR r :: st).map (cv z b) = _; rw [List.map_append, List.map_reverse, List.map_cons, show cv z b (vR r) = cvR z b r from rfl, cvR_2 h2r]) (by show 2 * 0 + _ ≤ 8; rw [catsum]; omega) hd ⟨by omega, by omega⟩
  refine back_run hrun h3 fun r G' H1 locs1 hp hI hq hL => ?_
  obtain ⟨c1, c2⟩ := hP r G' hp
  have := k r G' hp H1 locs1 ls (cells + mc') (slots + ms') hI (fun q hq' => (hq q hq').trans (h2 q hq')) hL (by omega) (by omega) h6
  rw [List.map_append] at this
  rw [show (r.map (cv z b)).toList = r.toList.map (cv z b) by cases r <;> rfl]
  exact this
theorem v_callI (hX : CO X own cc nL d mc ms n1 s1) {y : MethodName} {bytes : ByteArray} {maxL n idx d' mc' ms' r : Nat} {as S : List AV} {P : Option AV → GG → Prop} (hk : YI y bytes maxL none n) (hy1 : y.name = "<init>") (hi : Cond.instanceMethod y ∈ GW) (hl : Cond.methodLink own idx y ∈ GW) (hM : AMet y bytes maxL none d' mc' ms' (vR r :: as) G P) (h2r : 2 ≤ r) (hst : S = as.reverse ++ vR r :: st) (hn : as.length = n) (hlo : lo.length = nL) (hrm : RM d d' maxL st G mc' ms' n1 s1 mc ms)
    (hP : ∀ r G', P r G' → gC G' = gC G + mc' ∧ gS G' = gS G + ms') (hd : decode cc pc = .ok (.invokespecial idx, 3)) (k : ∀ r G', P r G' → VW X (pc + 3) lo (r.toList ++ st) G') : VW X pc lo S G := by
  subst hst
  obtain ⟨⟨p, l, e, R, s, m, args, below, meth, c, Q⟩, ⟨z, b, n0, s0⟩, D, cy⟩ := X
  obtain ⟨hx, hb, hml, hown, hts, hK, hlk, hRm, e1, e2, hz⟩ := hX
  obtain ⟨r1, r2, r3, r4, r5⟩ := hrm
  intro H locs ls cells slots h1 h2 h3 h4 h5 h6
  have hcb := callB_of (R := R) (s := s) (args := args) (own := own) (index := idx) (rm := rmA d' mc' ms') (mc := mc') (ms := ms') (ws := Cond.code y bytes maxL none :: GW) n hts (fun w hw => by
      rcases List.mem_cons.mp hw with h | h
      · rw [h]; exact GW_good _ hk.1
      · exact GW_good _ h) rfl rfl rfl (hts _ hk.2.1) (hts _ hl) hk.2.2.1 ⟨by show d' + 1 ≤ _; omega, by show 8 + (maxL + 11) + 40 * d' ≤ _; omega⟩
  have hrun := va_runI (e := e) (below := below) (meth := meth) (locs := locs) (cells := cells) (slots := slots) (g := F0 m pc ls ((as.reverse ++ vR r :: st).map (cv z b))) (rest := st.map (cv z b)) ⟨hx, hb, hml, hown, hts⟩ (hM l z b D cy) ⟨hcb, hy1, hts _ hi⟩ (As := as.map (cv z b)) (H := H) (b := z + (r - 2)) ⟨PA.blind z b D cy _ G, fun U hU hW => ⟨by rw [List.map_cons, show cv z b (vR r) = cvR z b r from rfl, cvR_2 h2r], by rw [hU]; exact h1, hK.warm hW⟩⟩ rfl (by rw [List.length_map]; exact hn) (show ls.size = nL by rw [h6.1, hlo]) (by show (as.reverse ++ vR r :: st).map (cv z b) = _; rw [List.map_append, List.map_reverse, List.map_cons, show cv z b (vR r) = cvR z b r from rfl, cvR_2 h2r]) (by show 2 * 0 + _ ≤ 8; rw [catsum]; omega) hd ⟨by omega, by omega⟩
  refine back_run hrun h3 fun r G' H1 locs1 hp hI hq hL => ?_
  obtain ⟨c1, c2⟩ := hP r G' hp
  have := k r G' hp H1 locs1 ls (cells + mc') (slots + ms') hI (fun q hq' => (hq q hq').trans (h2 q hq')) hL (by omega) (by omega) h6
  rw [List.map_append] at this
  rw [show (r.map (cv z b)).toList = r.toList.map (cv z b) by cases r <;> rfl]
  exact this
end CALLS
end
section
/-! New cells, and System.arraycopy, over the abstract frame. -/
theorem CL_def : ∀ (ci : Nat) (q : vw_C), CL[ci]? = some q → ∀ k, k < q.2.2 → defaultValue (tyF ci k) = (if rsT ci k = true then Value.null else .int 0) := by
  intro ci q h
  match ci, h with
  | 0, h => cases h; decide +kernel
  | 1, h => cases h; decide +kernel
  | 2, h => cases h; decide +kernel
  | 3, h => cases h; decide +kernel
  | 4, h => cases h; decide +kernel
  | 5, h => cases h; decide +kernel
  | 6, h => cases h; decide +kernel
  | 7, h => cases h; decide +kernel
  | 8, h => cases h; decide +kernel
  | 9, h => cases h; decide +kernel
  | n + 10, h => simp [CL] at h
section ALLOC
variable {X : CX} {own : String} {cc : ByteArray} {nL d mc ms n1 s1 : Nat} {pc : Nat} {lo : List (Option AV)} {st : List AV} {G : GG}
theorem pO_at {G : GG} {s : Nat × Nat} {r : Nat} {s' : Nat × Nat} (h : (pO G s).1[r]? = some s') : (r < G.1.length ∧ G.1[r]? = some s') ∨ (r = G.1.length ∧ s' = s) := by
  have h : (G.1 ++ [s])[r]? = some s' := h
  by_cases hl : r < G.1.length
  · rw [List.getElem?_append_left hl] at h
    exact Or.inl ⟨hl, h⟩
  · rw [List.getElem?_append_right (by omega)] at h
    have hz : r - G.1.length < 1 := (List.getElem?_eq_some_iff.mp h).1
    rw [show r - G.1.length = 0 by omega] at h
    cases h
    exact Or.inr ⟨by omega, rfl⟩
/-- a cell more, all else as it was -/
theorem IH.push {z b : Nat} {D : va_G} {cy : Nat → ClassId} {G : GG} {H H1 : Heap} (h : IH z b D cy G H) {s : Nat × Nat} (hz : H1.size = H.size + 1) (ho : ∀ q : Nat, q < H.size → H1[q]? = H[q]?) (hc : cA z b D cy (pO G s) G.1.length s H1) : IH z b D cy (pO G s) H1 := by
  obtain ⟨i1, i2, i3⟩ := h
  have hlen : (pO G s).1.length = G.1.length + 1 := by simp [pO]
  refine ⟨by rw [hlen]; omega, by rw [hlen]; omega, fun r s' h2 hs => ?_⟩
  rcases pO_at hs with ⟨hr, hs'⟩ | ⟨hr, hs'⟩
  · have hq : H1[z + (r - 2)]? = H[z + (r - 2)]? := ho _ (by omega)
    obtain ⟨c1, c2, c3⟩ := i3 r s' h2 hs'
    have f2 : ∀ i, (pO G s).2.1 r i = G.2.1 r i := fun i => by simp [pO, Nat.ne_of_lt hr]
    have f3 : ∀ i, (pO G s).2.2 r i = G.2.2 r i := fun i => by simp [pO, Nat.ne_of_lt hr]
    refine ⟨fun q => ?_, fun q => ?_, fun q => ?_⟩
    · obtain ⟨w, w1, w2⟩ := c1 q
      refine ⟨w, w1, (w2.kept hq).to fun k _ => ?_⟩
      unfold sV
      rw [f2, f3]
    · rw [hq, c2 q]
      simp only [f3]
    · rw [hq, c3 q]
      simp only [f2]
  · subst hr; subst hs'
    exact hc
theorem gC_push (G : GG) (s : Nat × Nat) : gC (pO G s) = gC G + 1 := by simp [gC, pO]
theorem gS_push (G : GG) (s : Nat × Nat) : gS (pO G s) = gS G + shS s := by simp [gS, pO]
theorem v_new (hX : CO X own cc nL d mc ms n1 s1) {idx ci n : Nat} {C : String} {T : u_T} (hcl : Cond.classLink own idx C ∈ GW) (hinst : Cond.instantiable C n ∈ GW) (hini : Cond.initialized C ∈ GW) (hc : CL[ci]? = some (C, T, n)) (hrm : gC G + 1 ≤ n1 + mc ∧ gS G + n ≤ s1 + ms) (hd : decode cc pc = .ok (.new idx, 3)) (k : VW X (pc + 3) lo (vR G.1.length :: st) (pO G (0, ci))) : VW X pc lo st G := by
  obtain ⟨⟨p, l, e, R, s, m, args, below, meth, c, Q⟩, ⟨z, b, n0, s0⟩, D, cy⟩ := X
  obtain ⟨hx, hb, hml, hown, hts, hK, hlk, hRm, e1, e2, hz⟩ := hX
  intro H locs ls cells slots h1 h2 h3 h4 h5 h6
  have hKn := hK.1.1 ci _ hc
  obtain ⟨hin, hty, hnm⟩ := CL_ok ci _ hc
  have hsz := h1.1
  have hg2 := h1.2.1
  refine W.newcK hx hb hown (hts _ hcl) (hts _ hinst) (hts _ hini) rfl hd (by omega) (by omega) hKn.2.1 rfl fun H1 kC hkC f1 z1 o1 => ?_
  have hsh : shS (0, ci) = n := by simp only [shS, cN, hc]; rfl
  have hI : IH z b D cy (pO G (0, ci)) H1 := h1.push z1 o1 ⟨fun _ => ⟨_, hc, ?_⟩, fun h => absurd h (by simp), fun h => absurd h (by simp)⟩
  · have hk := k H1 locs ls (cells + 1) (slots + n) hI (fun q hq => (o1 q (by omega)).trans (h2 q hq)) h3 (by rw [gC_push]; omega) (by rw [gS_push, hsh]; omega) h6
    rw [show (vR G.1.length :: st).map (cv z b) = cvR z b G.1.length :: st.map (cv z b) from rfl, cvR_2 hg2, show z + (G.1.length - 2) = H.size by omega] at hk
    exact hk
  · rw [show z + (G.1.length - 2) = H.size by omega]
    refine (u_born (tyF ci) hts hin hKn hkC f1 hty).to fun j hj => ?_
    rw [CL_def ci _ hc j hj]
    unfold sV
    have f2 : (pO G (0, ci)).2.1 G.1.length j = 0 := by simp [pO]
    have f3 : (pO G (0, ci)).2.2 G.1.length j = 0 := by simp [pO]
    rw [f2, f3]
    rfl
theorem v_newarr (hX : CO X own cc nL d mc ms n1 s1) {n : Int32} {N : Nat} (hn : ¬ n < 0) (hN : n.toNatClampNeg = N) (hby : N * 4 ≤ 536870912) (hrm : gC G + 1 ≤ n1 + mc ∧ gS G + N ≤ s1 + ms) (hd : decode cc pc = .ok (.newarray .int, 2)) (k : VW X (pc + 2) lo (vR G.1.length :: st) (pO G (1, N))) : VW X pc lo (vI n :: st) G := by
  obtain ⟨⟨p, l, e, R, s, m, args, below, meth, c, Q⟩, ⟨z, b, n0, s0⟩, D, cy⟩ := X
  obtain ⟨hx, hb, hml, hown, hts, hK, hlk, hRm, e1, e2, hz⟩ := hX
  intro H locs ls cells slots h1 h2 h3 h4 h5 h6
  have hsz := h1.1
  have hg2 := h1.2.1
  refine va_newaK (atype := .int) hx hb (hts _ ac_int) rfl hd rfl hn hN hby (by omega) (by omega) rfl fun H1 cA f1 z1 o1 hAr hNm => ?_
  have hcA : cA = cy 0 := Option.some.inj (hNm.symm.trans hK.2.2.1)
  subst hcA
  have hI : IH z b D cy (pO G (1, N)) H1 := h1.push z1 o1 ⟨fun h => absurd h (by simp), fun _ => ?_, fun h => absurd h (by simp)⟩
  · have hk := k H1 locs ls (cells + 1) (slots + N) hI (fun q hq => (o1 q (by omega)).trans (h2 q hq)) h3 (by rw [gC_push]; omega) (by rw [gS_push]; simp only [shS]; rw [if_neg (by decide)]; omega) h6
    rw [show (vR G.1.length :: st).map (cv z b) = cvR z b G.1.length :: st.map (cv z b) from rfl, cvR_2 hg2, show z + (G.1.length - 2) = H.size by omega] at hk
    exact hk
  · rw [show z + (G.1.length - 2) = H.size by omega, f1]
    congr 2
    funext j
    simp [pO]
    rfl
theorem v_anew (hX : CO X own cc nL d mc ms n1 s1) {idx c N : Nat} {n : Int32} {C : String} (hcc : c = 0 ∨ c = 1 ∨ c = 5) (hC : cNm c = C) (hcl : Cond.classLink own idx C ∈ GW) (hn : ¬ n < 0) (hN : n.toNatClampNeg = N) (hby : N * 4 ≤ 536870912) (hrm : gC G + 1 ≤ n1 + mc ∧ gS G + N ≤ s1 + ms) (hd : decode cc pc = .ok (.anewarray idx, 3)) (k : VW X (pc + 3) lo (vR G.1.length :: st) (pO G (c + 2, N))) : VW X pc lo (vI n :: st) G := by
  obtain ⟨⟨p, l, e, R, s, m, args, below, meth, co, Q⟩, ⟨z, b, n0, s0⟩, D, cy⟩ := X
  obtain ⟨hx, hb, hml, hown, hts, hK, hlk, hRm, e1, e2, hz⟩ := hX
  intro H locs ls cells slots h1 h2 h3 h4 h5 h6
  have hsz := h1.1
  have hg2 := h1.2.1
  subst hN
  obtain ⟨-, g2, g3⟩ := cy_ref hK hcc
  rw [hC] at g2 g3
  refine W.anew hx hb hown (hts _ hcl) (va_AO.use g3) rfl hd rfl hn hby (by omega) (by omega) fun cA kA comp f1 f2 f3 f4 => ?_
  obtain ⟨kA', comp', -, -, -, g4⟩ := g2
  have hcA : cA = cy (c + 2 - 1) := Option.some.inj (f1.symm.trans g4)
  subst hcA
  generalize hH1 : H.push ({ cls := cy (c + 2 - 1), slots := Array.replicate n.toNatClampNeg .null, vm := .none } : Cell) = H1
  have z1 : H1.size = H.size + 1 := by rw [← hH1, Array.size_push]
  have q1 : H1[H.size]? = some (arrV (cy (c + 2 - 1)) n.toNatClampNeg (fun _ => .null)) := by rw [← hH1, Array.getElem?_push_size, ← arrV_new]
  have o1 : ∀ q : Nat, q < H.size → H1[q]? = H[q]? := fun q hq => by rw [← hH1, Array.getElem?_push, if_neg (Nat.ne_of_lt hq)]
  have hI : IH z b D cy (pO G (c + 2, n.toNatClampNeg)) H1 := h1.push z1 o1 ⟨fun h => absurd h (by simp), fun h => absurd h (by simp), fun _ => ?_⟩
  · have hk := k H1 locs ls (cells + 1) (slots + n.toNatClampNeg) hI (fun q hq => (o1 q (by omega)).trans (h2 q hq)) h3 (by rw [gC_push]; omega) (by rw [gS_push]; simp only [shS]; rw [if_neg (by omega)]; omega) h6
    rw [show (vR G.1.length :: st).map (cv z b) = cvR z b G.1.length :: st.map (cv z b) from rfl, cvR_2 hg2, show z + (G.1.length - 2) = H.size by omega] at hk
    exact hk
  · rw [show z + (G.1.length - 2) = H.size by omega, q1]
    congr 2
    funext j
    simp [pO, cvR]
/-- n cells of row r from place sp on go to row a from place dp on -/
def cpM (M : MM) (r a sp dp n : Nat) : MM := fun q i => if q = a then va_cpy (M r) (M a) sp dp n i else M q i
theorem v_copy (hX : CO X own cc nL d mc ms n1 s1) {idx r a n0 n2 : Nat} {sp dp n : Int32} (hl : Cond.methodLink own idx arraycopyName ∈ GW) (h2r : 2 ≤ r) (hsr : G.1[r]? = some (1, n0)) (h2a : 2 ≤ a) (hsa : G.1[a]? = some (1, n2)) (g1 : ¬ sp < 0) (g2 : ¬ dp < 0) (g3 : ¬ n < 0) (g4 : sp.toNatClampNeg + n.toNatClampNeg ≤ n0) (g5 : dp.toNatClampNeg + n.toNatClampNeg ≤ n2) (hlo : lo.length = nL) (hrm : 1 ≤ d ∧ (st.map catA).sum ≤ 8) (hd : decode cc pc = .ok (.invokestatic idx, 3))
    (k : VW X (pc + 3) lo st (G.1, G.2.1, cpM G.2.2 r a sp.toNatClampNeg dp.toNatClampNeg n.toNatClampNeg)) : VW X pc lo (vI n :: vI dp :: vR a :: vI sp :: vR r :: st) G := by
  obtain ⟨⟨p, l, e, R, s, m, args, below, meth, c, Q⟩, ⟨z, b, n0', s0⟩, D, cy⟩ := X
  obtain ⟨hx, hb, hml, hown, hts, hK, hlk, hRm, e1, e2, hz⟩ := hX
  intro H locs ls cells slots h1 h2 h3 h4 h5 h6
  have nn : ∀ z : Int32, ¬ z < 0 → z.toInt = (z.toNatClampNeg : Int) := by
    intro z hz
    have hz0 : (0 : Int) ≤ z.toInt := by
      have := Int32.not_lt.mp hz
      simpa using Int32.le_iff_toInt_le.mp this
    show z.toInt = ((z.toInt.toNat : Nat) : Int)
    omega
  have hc0 := (h1.2.2 r (1, n0) h2r hsr).2.1 rfl
  have hc1 := (h1.2.2 a (1, n2) h2a hsa).2.1 rfl
  have hnf : nativeFrameWords "java/lang/System" "arraycopy" 5 + 11 ≤ 32 := by decide +kernel
  rw [show (vI n :: vI dp :: vR a :: vI sp :: vR r :: st).map (cv z b) = .int n :: .int dp :: cvR z b a :: .int sp :: cvR z b r :: st.map (cv z b) from rfl, cvR_2 h2a, cvR_2 h2r]
  intro T hT XX
  obtain ⟨-, k0, hk0, cm0, hkk0⟩ := hK.2.1 n0 (fun j => .int (G.2.2 r j))
  obtain ⟨-, k1, hk1, cm1, hkk1⟩ := hK.2.1 n2 (fun j => .int (G.2.2 a j))
  obtain ⟨vm', X', step⟩ := XX.arraycopy hx hown (hts _ hl) (hts _ kn_acp) (hts _ ks_acp) (hts _ ii_jS) (src := z + (r - 2)) (dst := z + (a - 2)) (cs := arrV (cy 0) n0 (fun j => .int (G.2.2 r j))) (cd := arrV (cy 0) n2 (fun j => .int (G.2.2 a j))) (srcPos := sp) (destPos := dp) (n := n) (by rw [hT]; exact hc0) (by rw [hT]; exact hc1)
    (fun _ h => by cases h) (fun _ h => by cases h) (fun h => by cases h) (fun h => by cases h) hk0 hk1 hkk0 hkk1 (by simp [refKind]) g1 g2 g3
    (by rw [nn sp g1, nn n g3, arrV_size]; omega)
    (by rw [nn dp g2, nn n g3, arrV_size]; omega)
    (fun vm₁ _ i hi => by
      have e : (arrV (cy 0) n0 (fun j => .int (G.2.2 r j))).slots.getD (sp.toNatClampNeg + i) .null = .int (G.2.2 r (sp.toNatClampNeg + i)) := by
        rw [Array.getD_eq_getD_getElem?, arrV_read _ _ (by omega)]
        rfl
      refine ⟨?_, ?_⟩
      · rw [e]
        rfl
      · rw [e]
        exact trivial)
    (g := F0 m pc ls (.int n :: .int dp :: .ref (z + (a - 2)) :: .int sp :: .ref (z + (r - 2)) :: st.map (cv z b))) rfl (by rw [hml]; show ls.size = _; rw [h6.1, hlo]) (rest := st.map (cv z b)) rfl (by rw [hb]; exact hd) (by omega) (by show 2 * 0 + _ + _ ≤ _; rw [catsum]; omega)
  have hcp : copied (arrV (cy 0) n0 (fun j => .int (G.2.2 r j))) (arrV (cy 0) n2 (fun j => .int (G.2.2 a j))) sp dp n = arrV (cy 0) n2 (fun j => .int (va_cpy (G.2.2 r) (G.2.2 a) sp.toNatClampNeg dp.toNatClampNeg n.toNatClampNeg j)) := va_copied (fun z => .int z) (cy 0) (cy 0) (G.2.2 r) (G.2.2 a) g4
  rw [hcp] at X' step
  have hl' : z + (a - 2) < H.size := (Array.getElem?_eq_some_iff.mp hc1).1
  have hheap : ((T.setVm vm').setCell (z + (a - 2)) (arrV (cy 0) n2 (fun j => .int (va_cpy (G.2.2 r) (G.2.2 a) sp.toNatClampNeg dp.toNatClampNeg n.toNatClampNeg j)))).heap = H.setIfInBounds (z + (a - 2)) (arrV (cy 0) n2 (fun j => .int (va_cpy (G.2.2 r) (G.2.2 a) sp.toNatClampNeg dp.toNatClampNeg n.toNatClampNeg j))) := by rw [← hT]; rfl
  have oq : ∀ q : Nat, q ≠ z + (a - 2) → (H.setIfInBounds (z + (a - 2)) (arrV (cy 0) n2 (fun j => .int (va_cpy (G.2.2 r) (G.2.2 a) sp.toNatClampNeg dp.toNatClampNeg n.toNatClampNeg j))))[q]? = H[q]? := fun q hq => by simp [Array.getElem?_setIfInBounds, Ne.symm hq]
  have hI : IH z b D cy (G.1, G.2.1, cpM G.2.2 r a sp.toNatClampNeg dp.toNatClampNeg n.toNatClampNeg) (H.setIfInBounds (z + (a - 2)) (arrV (cy 0) n2 (fun j => .int (va_cpy (G.2.2 r) (G.2.2 a) sp.toNatClampNeg dp.toNatClampNeg n.toNatClampNeg j)))) := by
    refine h1.upd h2a hsa (by simp) oq rfl (fun _ _ _ => rfl) (fun q i hq => by simp [cpM, hq]) ⟨fun h => absurd h (by simp), fun _ => ?_, fun h => absurd h (by simp)⟩
    simp [Array.getElem?_setIfInBounds, hl', cpM]
  obtain ⟨t, a1, b1⟩ := k _ _ ls cells slots hI (fun q hq => (oq q (by omega)).trans (h2 q hq)) (fun q hq => by
      rcases List.mem_append.mp hq with h | h
      · exact h3 q h
      · obtain ⟨w, -, hw⟩ := List.mem_map.mp h
        rw [← hw]
        exact Nat.le_add_right _ _) h4 h5 h6 _ hheap X'
  exact ⟨t, step t a1, b1⟩
end ALLOC
end
section
/-! The constructors, walked on the one heap that they are called on; g_0, g_1 .. are the heaps in their order. -/
def Fr (G : GG) : Prop := ∀ a, G.1.length ≤ a → ∀ i, G.2.1 a i = 0 ∧ G.2.2 a i = 0
def aO (G : GG) (s : Nat × Nat) : GG := (G.1 ++ [s], G.2.1, G.2.2)
theorem pO_aO {G : GG} (h : Fr G) (s : Nat × Nat) : pO G s = aO G s := by
  unfold pO aO
  congr 2
  · funext a i
    by_cases e : a = G.1.length
    · rw [if_pos e]; exact ((h a (by omega) i).1).symm
    · rw [if_neg e]
  · funext a i
    by_cases e : a = G.1.length
    · rw [if_pos e]; exact ((h a (by omega) i).2).symm
    · rw [if_neg e]
theorem Fr.aO {G : GG} (h : Fr G) (s : Nat × Nat) : Fr (aO G s) := fun a ha i => h a (by have ha : (G.1 ++ [s]).length ≤ a := ha; rw [List.length_append] at ha; omega) i
theorem Fr.sI {G : GG} (h : Fr G) {r k : Nat} {x : Int32} (hr : r < G.1.length) : Fr (sI G r k x) := fun a ha i => ⟨(h a ha i).1, by
  have ha : G.1.length ≤ a := ha
  show upM G.2.2 r k x a i = 0
  unfold upM
  rw [if_neg (by omega)]
  exact (h a ha i).2⟩
theorem Fr.sR {G : GG} (h : Fr G) {r k x : Nat} (hr : r < G.1.length) : Fr (sR G r k x) := fun a ha i => ⟨by
  have ha : G.1.length ≤ a := ha
  show upM G.2.1 r k x a i = 0
  unfold upM
  rw [if_neg (by omega)]
  exact (h a ha i).1, (h a ha i).2⟩
section CT
variable {X : CX} {own : String} {cc : ByteArray} {nL d mc ms n1 s1 : Nat} {pc : Nat} {lo : List (Option AV)} {st : List AV} {G G' : GG}
theorem w_new (hX : CO X own cc nL d mc ms n1 s1) (hF : Fr G) {idx ci n r : Nat} {C : String} {T : u_T} (hcl : Cond.classLink own idx C ∈ GW) (hinst : Cond.instantiable C n ∈ GW) (hini : Cond.initialized C ∈ GW) (hc : CL[ci]? = some (C, T, n)) (hlen : G.1.length = r) (hrm : gC G + 1 ≤ n1 + mc ∧ gS G + n ≤ s1 + ms) (hg : G' = aO G (0, ci)) (hd : decode cc pc = .ok (.new idx, 3)) (k : VW X (pc + 3) lo (vR r :: st) G') : VW X pc lo st G := by
  subst hlen; subst hg
  refine v_new hX hcl hinst hini hc hrm hd ?_
  rw [pO_aO hF]
  exact k
theorem w_newarr (hX : CO X own cc nL d mc ms n1 s1) (hF : Fr G) {n : Int32} {N r : Nat} (hn : ¬ n < 0) (hN : n.toNatClampNeg = N) (hby : N * 4 ≤ 536870912) (hlen : G.1.length = r) (hrm : gC G + 1 ≤ n1 + mc ∧ gS G + N ≤ s1 + ms) (hg : G' = aO G (1, N)) (hd : decode cc pc = .ok (.newarray .int, 2)) (k : VW X (pc + 2) lo (vR r :: st) G') : VW X pc lo (vI n :: st) G := by
  subst hlen; subst hg
  refine v_newarr hX hn hN hby hrm hd ?_
  rw [pO_aO hF]
  exact k
theorem w_anew (hX : CO X own cc nL d mc ms n1 s1) (hF : Fr G) {idx c N r : Nat} {n : Int32} {C : String} (hcc : c = 0 ∨ c = 1 ∨ c = 5) (hC : cNm c = C) (hcl : Cond.classLink own idx C ∈ GW) (hn : ¬ n < 0) (hN : n.toNatClampNeg = N) (hby : N * 4 ≤ 536870912) (hlen : G.1.length = r) (hrm : gC G + 1 ≤ n1 + mc ∧ gS G + N ≤ s1 + ms) (hg : G' = aO G (c + 2, N)) (hd : decode cc pc = .ok (.anewarray idx, 3)) (k : VW X (pc + 3) lo (vR r :: st) G') : VW X pc lo (vI n :: st) G := by
  subst hlen; subst hg
  refine v_anew hX hcc hC hcl hn hN hby hrm hd ?_
  rw [pO_aO hF]
  exact k
theorem w_getR (hX : CO X own cc nL d mc ms n1 s1) {idx ci k r v : Nat} (hf : FL own idx ci k) (ht : rsT ci k = true) (h2 : 2 ≤ r) (hs : G.1[r]? = some (0, ci)) (hv : G.2.1 r k = v) (hd : decode cc pc = .ok (.getfield idx, 3)) (k : VW X (pc + 3) lo (vR v :: st) G) : VW X pc lo (vR r :: st) G := by
  subst hv
  exact v_getR hX hf ht h2 hs hd k
theorem w_aast (hX : CO X own cc nL d mc ms n1 s1) {r v c n j : Nat} {i : Int32} (hcc : c = 0 ∨ c = 1 ∨ c = 5) (h2 : 2 ≤ r) (hs : G.1[r]? = some (c + 2, n)) (h2v : 2 ≤ v) (hsv : G.1[v]? = some (0, c)) (hi : vp_in i n) (hj : i.toNatClampNeg = j) (hg : G' = sR G r j v) (hd : decode cc pc = .ok (.aastore, 1)) (k : VW X (pc + 1) lo st G') : VW X pc lo (vR v :: vI i :: vR r :: st) G := by
  subst hj; subst hg
  exact v_aast hX hcc h2 hs h2v hsv hi hd k
theorem w_iast (hX : CO X own cc nL d mc ms n1 s1) {r n j : Nat} {i x : Int32} (h2 : 2 ≤ r) (hs : G.1[r]? = some (1, n)) (hi : vp_in i n) (hj : i.toNatClampNeg = j) (hg : G' = sI G r j x) (hd : decode cc pc = .ok (.iastore, 1)) (k : VW X (pc + 1) lo st G') : VW X pc lo (vI x :: vI i :: vR r :: st) G := by
  subst hj; subst hg
  exact v_iast hX h2 hs hi hd k
theorem w_putF (hX : CO X own cc nL d mc ms n1 s1) (hI : CI X) {idx ci k r v : Nat} (hf : FL own idx ci k) (ht : rsT ci k = true) (hfin : ∀ q : vw_C, CL[ci]? = some q → (q.2.1 k).2.2.2 = true ∧ (q.2.1 k).1 = own) (h2 : 2 ≤ r) (hs : G.1[r]? = some (0, ci)) (h2v : 2 ≤ v) (hn : ∀ a, narrow (tyF ci k) (.ref a) = .ref a) (hfit : ∀ a, fits (tyF ci k) (.ref a) = true) (hg : G' = sR G r k v) (hd : decode cc pc = .ok (.putfield idx, 3)) (kk : VW X (pc + 3) lo st G') : VW X pc lo (vR v :: vR r :: st) G := by
  subst hg
  exact v_putF hX hI hf ht hfin h2 hs h2v hn hfit hd kk
theorem w_putI (hX : CO X own cc nL d mc ms n1 s1) {idx ci k r : Nat} {x : Int32} (hf : FL own idx ci k) (ht : rsT ci k = false) (hfin : ∀ q : vw_C, CL[ci]? = some q → (q.2.1 k).2.2.2 = false) (h2 : 2 ≤ r) (hs : G.1[r]? = some (0, ci)) (hn : narrow (tyF ci k) (.int x) = .int x) (hfit : fits (tyF ci k) (.int x) = true) (hg : G' = sI G r k x) (hd : decode cc pc = .ok (.putfield idx, 3)) (kk : VW X (pc + 3) lo st G') : VW X pc lo (vI x :: vR r :: st) G := by
  subst hg
  exact v_putI hX hf ht hfin h2 hs hn hfit hd kk
/-- the next frame of a walk, as it is printed -/
theorem VW.cast {lo' : List (Option AV)} {st' : List AV} (h1 : lo' = lo) (h2 : st' = st) (h3 : G' = G) (k : VW X pc lo' st' G') : VW X pc lo st G := by
  subst h1; subst h2; subst h3; exact k
end CT
theorem finF {ci : Nat} {C : String} {T : u_T} {N k : Nat} {own : String} (h : CL[ci]? = some (C, T, N)) (h1 : (T k).2.2.2 = true) (h2 : (T k).1 = own) : ∀ q : vw_C, CL[ci]? = some q → (q.2.1 k).2.2.2 = true ∧ (q.2.1 k).1 = own := fun q hq => by
  cases h.symm.trans hq
  exact ⟨h1, h2⟩
theorem finI {ci : Nat} {C : String} {T : u_T} {N k : Nat} (h : CL[ci]? = some (C, T, N)) (h1 : (T k).2.2.2 = false) : ∀ q : vw_C, CL[ci]? = some q → (q.2.1 k).2.2.2 = false := fun q hq => by
  cases h.symm.trans hq
  exact h1
theorem d_Ja_init_0 : decode c_Ja_init 0 = .ok (.aload_n 0, 1) := by decide +kernel
theorem d_Ja_init_1 : decode c_Ja_init 1 = .ok (.invokespecial 3, 3) := by decide +kernel
theorem d_Ja_init_4 : decode c_Ja_init 4 = .ok (.return_, 1) := by decide +kernel
theorem C_Ja_init {G : GG} {r : Nat} (h2 : 2 ≤ r) : AMet y_Ja_init c_Ja_init 1 none 1 0 0 [vR r] G (fun o G' => o = none ∧ G' = G) := by
  refine AMet.of k_Ja_init (lo := [some (vR r)]) rfl (Nat.le_of_ble_eq_true rfl) (fun X hX hR _ => ?_)
  refine v_aload_n (pc := 0) hX rfl d_Ja_init_0 ?_
  refine v_objInit (pc := 1) hX ml_Ja_3 rfl ⟨Nat.le_refl _, Nat.le_of_ble_eq_true rfl⟩ h2 d_Ja_init_1 ?_
  exact v_vret (pc := 4) hX hR rfl rfl ⟨rfl, rfl⟩ d_Ja_init_4
theorem d_De_init_0 : decode c_De_init 0 = .ok (.aload_n 0, 1) := by decide +kernel
theorem d_De_init_1 : decode c_De_init 1 = .ok (.invokespecial 3, 3) := by decide +kernel
theorem d_De_init_4 : decode c_De_init 4 = .ok (.return_, 1) := by decide +kernel
theorem C_De_init {G : GG} {r : Nat} (h2 : 2 ≤ r) : AMet y_De_init c_De_init 1 none 1 0 0 [vR r] G (fun o G' => o = none ∧ G' = G) := by
  refine AMet.of k_De_init (lo := [some (vR r)]) rfl (Nat.le_of_ble_eq_true rfl) (fun X hX hR _ => ?_)
  refine v_aload_n (pc := 0) hX rfl d_De_init_0 ?_
  refine v_objInit (pc := 1) hX ml_De_3 rfl ⟨Nat.le_refl _, Nat.le_of_ble_eq_true rfl⟩ h2 d_De_init_1 ?_
  exact v_vret (pc := 4) hX hR rfl rfl ⟨rfl, rfl⟩ d_De_init_4
theorem d_Te_init_0 : decode c_Te_init 0 = .ok (.aload_n 0, 1) := by decide +kernel
theorem d_Te_init_1 : decode c_Te_init 1 = .ok (.invokespecial 1, 3) := by decide +kernel
theorem d_Te_init_4 : decode c_Te_init 4 = .ok (.return_, 1) := by decide +kernel
theorem C_Te_init {G : GG} {r : Nat} (h2 : 2 ≤ r) : AMet y_Te_init c_Te_init 1 none 1 0 0 [vR r] G (fun o G' => o = none ∧ G' = G) := by
  refine AMet.of k_Te_init (lo := [some (vR r)]) rfl (Nat.le_of_ble_eq_true rfl) (fun X hX hR _ => ?_)
  refine v_aload_n (pc := 0) hX rfl d_Te_init_0 ?_
  refine v_objInit (pc := 1) hX ml_Te_1 rfl ⟨Nat.le_refl _, Nat.le_of_ble_eq_true rfl⟩ h2 d_Te_init_1 ?_
  exact v_vret (pc := 4) hX hR rfl rfl ⟨rfl, rfl⟩ d_Te_init_4
def z0 : Nat → Nat → Nat := fun _ _ => 0
def z1 : Nat → Nat → Int32 := fun _ _ => 0
def g_0 : GG := ([(1, 0), (1, 0)], z0, z1)
theorem f_0 : Fr g_0 := fun _ _ _ => ⟨rfl, rfl⟩
theorem s_0 : g_0.1 = [(1, 0), (1, 0)] := rfl
theorem n_0 : gC g_0 = 2 ∧ gS g_0 = 0 := by unfold gC gS; rw [s_0]; exact ⟨rfl, rfl⟩
def g_1 : GG := aO g_0 (0, 8)
theorem f_1 : Fr g_1 := f_0.aO _
theorem s_1 : g_1.1 = [(1, 0), (1, 0), (0, 8)] := by show g_0.1 ++ _ = _; rw [s_0]; rfl
theorem n_1 : gC g_1 = 3 ∧ gS g_1 = 7 := by unfold gC gS; rw [s_1]; exact ⟨rfl, rfl⟩
theorem d_LJ_init_0 : decode c_LJ_init 0 = .ok (.aload_n 0, 1) := by decide +kernel
theorem d_LJ_init_1 : decode c_LJ_init 1 = .ok (.invokespecial 3, 3) := by decide +kernel
theorem d_LJ_init_4 : decode c_LJ_init 4 = .ok (.aload_n 0, 1) := by decide +kernel
theorem d_LJ_init_5 : decode c_LJ_init 5 = .ok (.new 9, 3) := by decide +kernel
theorem d_LJ_init_8 : decode c_LJ_init 8 = .ok (.dup, 1) := by decide +kernel
theorem d_LJ_init_9 : decode c_LJ_init 9 = .ok (.invokespecial 11, 3) := by decide +kernel
theorem d_LJ_init_12 : decode c_LJ_init 12 = .ok (.putfield 12, 3) := by decide +kernel
theorem d_LJ_init_15 : decode c_LJ_init 15 = .ok (.aload_n 0, 1) := by decide +kernel
theorem d_LJ_init_16 : decode c_LJ_init 16 = .ok (.new 18, 3) := by decide +kernel
theorem d_LJ_init_19 : decode c_LJ_init 19 = .ok (.dup, 1) := by decide +kernel
theorem d_LJ_init_20 : decode c_LJ_init 20 = .ok (.invokespecial 20, 3) := by decide +kernel
theorem d_LJ_init_23 : decode c_LJ_init 23 = .ok (.putfield 21, 3) := by decide +kernel
theorem d_LJ_init_26 : decode c_LJ_init 26 = .ok (.aload_n 0, 1) := by decide +kernel
theorem d_LJ_init_27 : decode c_LJ_init 27 = .ok (.new 25, 3) := by decide +kernel
theorem d_LJ_init_30 : decode c_LJ_init 30 = .ok (.dup, 1) := by decide +kernel
theorem d_LJ_init_31 : decode c_LJ_init 31 = .ok (.invokespecial 27, 3) := by decide +kernel
theorem d_LJ_init_34 : decode c_LJ_init 34 = .ok (.putfield 28, 3) := by decide +kernel
theorem d_LJ_init_37 : decode c_LJ_init 37 = .ok (.aload_n 0, 1) := by decide +kernel
theorem d_LJ_init_38 : decode c_LJ_init 38 = .ok (.new 32, 3) := by decide +kernel
theorem d_LJ_init_41 : decode c_LJ_init 41 = .ok (.dup, 1) := by decide +kernel
theorem d_LJ_init_42 : decode c_LJ_init 42 = .ok (.invokespecial 34, 3) := by decide +kernel
theorem d_LJ_init_45 : decode c_LJ_init 45 = .ok (.putfield 35, 3) := by decide +kernel
theorem d_LJ_init_48 : decode c_LJ_init 48 = .ok (.aload_n 0, 1) := by decide +kernel
theorem d_LJ_init_49 : decode c_LJ_init 49 = .ok (.new 39, 3) := by decide +kernel
theorem d_LJ_init_52 : decode c_LJ_init 52 = .ok (.dup, 1) := by decide +kernel
theorem d_LJ_init_53 : decode c_LJ_init 53 = .ok (.invokespecial 41, 3) := by decide +kernel
theorem d_LJ_init_56 : decode c_LJ_init 56 = .ok (.putfield 42, 3) := by decide +kernel
theorem d_LJ_init_59 : decode c_LJ_init 59 = .ok (.aload_n 0, 1) := by decide +kernel
theorem d_LJ_init_60 : decode c_LJ_init 60 = .ok (.iconst 4, 1) := by decide +kernel
theorem d_LJ_init_61 : decode c_LJ_init 61 = .ok (.anewarray 46, 3) := by decide +kernel
theorem d_LJ_init_64 : decode c_LJ_init 64 = .ok (.putfield 48, 3) := by decide +kernel
theorem d_LJ_init_67 : decode c_LJ_init 67 = .ok (.aload_n 0, 1) := by decide +kernel
theorem d_LJ_init_68 : decode c_LJ_init 68 = .ok (.iconst 0, 1) := by decide +kernel
theorem d_LJ_init_69 : decode c_LJ_init 69 = .ok (.putfield 52, 3) := by decide +kernel
theorem d_LJ_init_72 : decode c_LJ_init 72 = .ok (.iconst 0, 1) := by decide +kernel
theorem d_LJ_init_73 : decode c_LJ_init 73 = .ok (.istore_n 1, 1) := by decide +kernel
theorem d_LJ_init_74 : decode c_LJ_init 74 = .ok (.iload_n 1, 1) := by decide +kernel
theorem d_LJ_init_75 : decode c_LJ_init 75 = .ok (.iconst 4, 1) := by decide +kernel
theorem d_LJ_init_76 : decode c_LJ_init 76 = .ok (.if_icmp .ge 22, 3) := by decide +kernel
theorem d_LJ_init_79 : decode c_LJ_init 79 = .ok (.aload_n 0, 1) := by decide +kernel
theorem d_LJ_init_80 : decode c_LJ_init 80 = .ok (.getfield 48, 3) := by decide +kernel
theorem d_LJ_init_83 : decode c_LJ_init 83 = .ok (.iload_n 1, 1) := by decide +kernel
theorem d_LJ_init_84 : decode c_LJ_init 84 = .ok (.new 46, 3) := by decide +kernel
theorem d_LJ_init_87 : decode c_LJ_init 87 = .ok (.dup, 1) := by decide +kernel
theorem d_LJ_init_88 : decode c_LJ_init 88 = .ok (.invokespecial 56, 3) := by decide +kernel
theorem d_LJ_init_91 : decode c_LJ_init 91 = .ok (.aastore, 1) := by decide +kernel
theorem d_LJ_init_92 : decode c_LJ_init 92 = .ok (.iinc 1 1, 3) := by decide +kernel
theorem d_LJ_init_95 : decode c_LJ_init 95 = .ok (.goto (-21), 3) := by decide +kernel
theorem d_LJ_init_98 : decode c_LJ_init 98 = .ok (.return_, 1) := by decide +kernel
def g_2 : GG := aO g_1 (0, 6)
theorem f_2 : Fr g_2 := f_1.aO _
theorem s_2 : g_2.1 = [(1, 0), (1, 0), (0, 8), (0, 6)] := by show g_1.1 ++ _ = _; rw [s_1]; rfl
theorem n_2 : gC g_2 = 4 ∧ gS g_2 = 11 := by unfold gC gS; rw [s_2]; exact ⟨rfl, rfl⟩
theorem d_Sp_init_0 : decode c_Sp_init 0 = .ok (.aload_n 0, 1) := by decide +kernel
theorem d_Sp_init_1 : decode c_Sp_init 1 = .ok (.invokespecial 3, 3) := by decide +kernel
theorem d_Sp_init_4 : decode c_Sp_init 4 = .ok (.aload_n 0, 1) := by decide +kernel
theorem d_Sp_init_5 : decode c_Sp_init 5 = .ok (.bipush 6, 2) := by decide +kernel
theorem d_Sp_init_7 : decode c_Sp_init 7 = .ok (.anewarray 9, 3) := by decide +kernel
theorem d_Sp_init_10 : decode c_Sp_init 10 = .ok (.putfield 11, 3) := by decide +kernel
theorem d_Sp_init_13 : decode c_Sp_init 13 = .ok (.aload_n 0, 1) := by decide +kernel
theorem d_Sp_init_14 : decode c_Sp_init 14 = .ok (.iconst 4, 1) := by decide +kernel
theorem d_Sp_init_15 : decode c_Sp_init 15 = .ok (.anewarray 17, 3) := by decide +kernel
theorem d_Sp_init_18 : decode c_Sp_init 18 = .ok (.putfield 19, 3) := by decide +kernel
theorem d_Sp_init_21 : decode c_Sp_init 21 = .ok (.iconst 0, 1) := by decide +kernel
theorem d_Sp_init_22 : decode c_Sp_init 22 = .ok (.istore_n 1, 1) := by decide +kernel
theorem d_Sp_init_23 : decode c_Sp_init 23 = .ok (.iload_n 1, 1) := by decide +kernel
theorem d_Sp_init_24 : decode c_Sp_init 24 = .ok (.bipush 6, 2) := by decide +kernel
theorem d_Sp_init_26 : decode c_Sp_init 26 = .ok (.if_icmp .ge 22, 3) := by decide +kernel
theorem d_Sp_init_29 : decode c_Sp_init 29 = .ok (.aload_n 0, 1) := by decide +kernel
theorem d_Sp_init_30 : decode c_Sp_init 30 = .ok (.getfield 11, 3) := by decide +kernel
theorem d_Sp_init_33 : decode c_Sp_init 33 = .ok (.iload_n 1, 1) := by decide +kernel
theorem d_Sp_init_34 : decode c_Sp_init 34 = .ok (.new 9, 3) := by decide +kernel
theorem d_Sp_init_37 : decode c_Sp_init 37 = .ok (.dup, 1) := by decide +kernel
theorem d_Sp_init_38 : decode c_Sp_init 38 = .ok (.invokespecial 23, 3) := by decide +kernel
theorem d_Sp_init_41 : decode c_Sp_init 41 = .ok (.aastore, 1) := by decide +kernel
theorem d_Sp_init_42 : decode c_Sp_init 42 = .ok (.iinc 1 1, 3) := by decide +kernel
theorem d_Sp_init_45 : decode c_Sp_init 45 = .ok (.goto (-22), 3) := by decide +kernel
theorem d_Sp_init_48 : decode c_Sp_init 48 = .ok (.iconst 0, 1) := by decide +kernel
theorem d_Sp_init_49 : decode c_Sp_init 49 = .ok (.istore_n 1, 1) := by decide +kernel
theorem d_Sp_init_50 : decode c_Sp_init 50 = .ok (.iload_n 1, 1) := by decide +kernel
theorem d_Sp_init_51 : decode c_Sp_init 51 = .ok (.iconst 4, 1) := by decide +kernel
theorem d_Sp_init_52 : decode c_Sp_init 52 = .ok (.if_icmp .ge 22, 3) := by decide +kernel
theorem d_Sp_init_55 : decode c_Sp_init 55 = .ok (.aload_n 0, 1) := by decide +kernel
theorem d_Sp_init_56 : decode c_Sp_init 56 = .ok (.getfield 19, 3) := by decide +kernel
theorem d_Sp_init_59 : decode c_Sp_init 59 = .ok (.iload_n 1, 1) := by decide +kernel
theorem d_Sp_init_60 : decode c_Sp_init 60 = .ok (.new 17, 3) := by decide +kernel
theorem d_Sp_init_63 : decode c_Sp_init 63 = .ok (.dup, 1) := by decide +kernel
theorem d_Sp_init_64 : decode c_Sp_init 64 = .ok (.invokespecial 24, 3) := by decide +kernel
theorem d_Sp_init_67 : decode c_Sp_init 67 = .ok (.aastore, 1) := by decide +kernel
theorem d_Sp_init_68 : decode c_Sp_init 68 = .ok (.iinc 1 1, 3) := by decide +kernel
theorem d_Sp_init_71 : decode c_Sp_init 71 = .ok (.goto (-21), 3) := by decide +kernel
theorem d_Sp_init_74 : decode c_Sp_init 74 = .ok (.return_, 1) := by decide +kernel
def g_3 : GG := aO g_2 (3, 6)
theorem f_3 : Fr g_3 := f_2.aO _
theorem s_3 : g_3.1 = [(1, 0), (1, 0), (0, 8), (0, 6), (3, 6)] := by show g_2.1 ++ _ = _; rw [s_2]; rfl
theorem n_3 : gC g_3 = 5 ∧ gS g_3 = 17 := by unfold gC gS; rw [s_3]; exact ⟨rfl, rfl⟩
def g_4 : GG := sR g_3 3 0 4
theorem f_4 : Fr g_4 := f_3.sR (by rw [s_3]; exact Nat.le_of_ble_eq_true rfl)
theorem s_4 : g_4.1 = [(1, 0), (1, 0), (0, 8), (0, 6), (3, 6)] := by show g_3.1 = _; exact s_3
theorem n_4 : gC g_4 = 5 ∧ gS g_4 = 17 := by unfold gC gS; rw [s_4]; exact ⟨rfl, rfl⟩
def g_5 : GG := aO g_4 (2, 4)
theorem f_5 : Fr g_5 := f_4.aO _
theorem s_5 : g_5.1 = [(1, 0), (1, 0), (0, 8), (0, 6), (3, 6), (2, 4)] := by show g_4.1 ++ _ = _; rw [s_4]; rfl
theorem n_5 : gC g_5 = 6 ∧ gS g_5 = 21 := by unfold gC gS; rw [s_5]; exact ⟨rfl, rfl⟩
def g_6 : GG := sR g_5 3 1 5
theorem f_6 : Fr g_6 := f_5.sR (by rw [s_5]; exact Nat.le_of_ble_eq_true rfl)
theorem s_6 : g_6.1 = [(1, 0), (1, 0), (0, 8), (0, 6), (3, 6), (2, 4)] := by show g_5.1 = _; exact s_5
theorem n_6 : gC g_6 = 6 ∧ gS g_6 = 21 := by unfold gC gS; rw [s_6]; exact ⟨rfl, rfl⟩
def g_7 : GG := aO g_6 (0, 1)
theorem f_7 : Fr g_7 := f_6.aO _
theorem s_7 : g_7.1 = [(1, 0), (1, 0), (0, 8), (0, 6), (3, 6), (2, 4), (0, 1)] := by show g_6.1 ++ _ = _; rw [s_6]; rfl
theorem n_7 : gC g_7 = 7 ∧ gS g_7 = 26 := by unfold gC gS; rw [s_7]; exact ⟨rfl, rfl⟩
def g_8 : GG := sR g_7 4 0 6
theorem f_8 : Fr g_8 := f_7.sR (by rw [s_7]; exact Nat.le_of_ble_eq_true rfl)
theorem s_8 : g_8.1 = [(1, 0), (1, 0), (0, 8), (0, 6), (3, 6), (2, 4), (0, 1)] := by show g_7.1 = _; exact s_7
theorem n_8 : gC g_8 = 7 ∧ gS g_8 = 26 := by unfold gC gS; rw [s_8]; exact ⟨rfl, rfl⟩
def g_9 : GG := aO g_8 (0, 1)
theorem f_9 : Fr g_9 := f_8.aO _
theorem s_9 : g_9.1 = [(1, 0), (1, 0), (0, 8), (0, 6), (3, 6), (2, 4), (0, 1), (0, 1)] := by show g_8.1 ++ _ = _; rw [s_8]; rfl
theorem n_9 : gC g_9 = 8 ∧ gS g_9 = 31 := by unfold gC gS; rw [s_9]; exact ⟨rfl, rfl⟩
def g_10 : GG := sR g_9 4 1 7
theorem f_10 : Fr g_10 := f_9.sR (by rw [s_9]; exact Nat.le_of_ble_eq_true rfl)
theorem s_10 : g_10.1 = [(1, 0), (1, 0), (0, 8), (0, 6), (3, 6), (2, 4), (0, 1), (0, 1)] := by show g_9.1 = _; exact s_9
theorem n_10 : gC g_10 = 8 ∧ gS g_10 = 31 := by unfold gC gS; rw [s_10]; exact ⟨rfl, rfl⟩
def g_11 : GG := aO g_10 (0, 1)
theorem f_11 : Fr g_11 := f_10.aO _
theorem s_11 : g_11.1 = [(1, 0), (1, 0), (0, 8), (0, 6), (3, 6), (2, 4), (0, 1), (0, 1), (0, 1)] := by show g_10.1 ++ _ = _; rw [s_10]; rfl
theorem n_11 : gC g_11 = 9 ∧ gS g_11 = 36 := by unfold gC gS; rw [s_11]; exact ⟨rfl, rfl⟩
def g_12 : GG := sR g_11 4 2 8
theorem f_12 : Fr g_12 := f_11.sR (by rw [s_11]; exact Nat.le_of_ble_eq_true rfl)
theorem s_12 : g_12.1 = [(1, 0), (1, 0), (0, 8), (0, 6), (3, 6), (2, 4), (0, 1), (0, 1), (0, 1)] := by show g_11.1 = _; exact s_11
theorem n_12 : gC g_12 = 9 ∧ gS g_12 = 36 := by unfold gC gS; rw [s_12]; exact ⟨rfl, rfl⟩
def g_13 : GG := aO g_12 (0, 1)
theorem f_13 : Fr g_13 := f_12.aO _
theorem s_13 : g_13.1 = [(1, 0), (1, 0), (0, 8), (0, 6), (3, 6), (2, 4), (0, 1), (0, 1), (0, 1), (0, 1)] := by show g_12.1 ++ _ = _; rw [s_12]; rfl
theorem n_13 : gC g_13 = 10 ∧ gS g_13 = 41 := by unfold gC gS; rw [s_13]; exact ⟨rfl, rfl⟩
def g_14 : GG := sR g_13 4 3 9
theorem f_14 : Fr g_14 := f_13.sR (by rw [s_13]; exact Nat.le_of_ble_eq_true rfl)
theorem s_14 : g_14.1 = [(1, 0), (1, 0), (0, 8), (0, 6), (3, 6), (2, 4), (0, 1), (0, 1), (0, 1), (0, 1)] := by show g_13.1 = _; exact s_13
theorem n_14 : gC g_14 = 10 ∧ gS g_14 = 41 := by unfold gC gS; rw [s_14]; exact ⟨rfl, rfl⟩
def g_15 : GG := aO g_14 (0, 1)
theorem f_15 : Fr g_15 := f_14.aO _
theorem s_15 : g_15.1 = [(1, 0), (1, 0), (0, 8), (0, 6), (3, 6), (2, 4), (0, 1), (0, 1), (0, 1), (0, 1), (0, 1)] := by show g_14.1 ++ _ = _; rw [s_14]; rfl
theorem n_15 : gC g_15 = 11 ∧ gS g_15 = 46 := by unfold gC gS; rw [s_15]; exact ⟨rfl, rfl⟩
def g_16 : GG := sR g_15 4 4 10
theorem f_16 : Fr g_16 := f_15.sR (by rw [s_15]; exact Nat.le_of_ble_eq_true rfl)
theorem s_16 : g_16.1 = [(1, 0), (1, 0), (0, 8), (0, 6), (3, 6), (2, 4), (0, 1), (0, 1), (0, 1), (0, 1), (0, 1)] := by show g_15.1 = _; exact s_15
theorem n_16 : gC g_16 = 11 ∧ gS g_16 = 46 := by unfold gC gS; rw [s_16]; exact ⟨rfl, rfl⟩
def g_17 : GG := aO g_16 (0, 1)
theorem f_17 : Fr g_17 := f_16.aO _
theorem s_17 : g_17.1 = [(1, 0), (1, 0), (0, 8), (0, 6), (3, 6), (2, 4), (0, 1), (0, 1), (0, 1), (0, 1), (0, 1), (0, 1)] := by show g_16.1 ++ _ = _; rw [s_16]; rfl
theorem n_17 : gC g_17 = 12 ∧ gS g_17 = 51 := by unfold gC gS; rw [s_17]; exact ⟨rfl, rfl⟩
def g_18 : GG := sR g_17 4 5 11
theorem f_18 : Fr g_18 := f_17.sR (by rw [s_17]; exact Nat.le_of_ble_eq_true rfl)
theorem s_18 : g_18.1 = [(1, 0), (1, 0), (0, 8), (0, 6), (3, 6), (2, 4), (0, 1), (0, 1), (0, 1), (0, 1), (0, 1), (0, 1)] := by show g_17.1 = _; exact s_17
theorem n_18 : gC g_18 = 12 ∧ gS g_18 = 51 := by unfold gC gS; rw [s_18]; exact ⟨rfl, rfl⟩
def g_19 : GG := aO g_18 (0, 0)
theorem f_19 : Fr g_19 := f_18.aO _
theorem s_19 : g_19.1 = [(1, 0), (1, 0), (0, 8), (0, 6), (3, 6), (2, 4), (0, 1), (0, 1), (0, 1), (0, 1), (0, 1), (0, 1), (0, 0)] := by show g_18.1 ++ _ = _; rw [s_18]; rfl
theorem n_19 : gC g_19 = 13 ∧ gS g_19 = 55 := by unfold gC gS; rw [s_19]; exact ⟨rfl, rfl⟩
def g_20 : GG := sR g_19 5 0 12
theorem f_20 : Fr g_20 := f_19.sR (by rw [s_19]; exact Nat.le_of_ble_eq_true rfl)
theorem s_20 : g_20.1 = [(1, 0), (1, 0), (0, 8), (0, 6), (3, 6), (2, 4), (0, 1), (0, 1), (0, 1), (0, 1), (0, 1), (0, 1), (0, 0)] := by show g_19.1 = _; exact s_19
theorem n_20 : gC g_20 = 13 ∧ gS g_20 = 55 := by unfold gC gS; rw [s_20]; exact ⟨rfl, rfl⟩
def g_21 : GG := aO g_20 (0, 0)
theorem f_21 : Fr g_21 := f_20.aO _
theorem s_21 : g_21.1 = [(1, 0), (1, 0), (0, 8), (0, 6), (3, 6), (2, 4), (0, 1), (0, 1), (0, 1), (0, 1), (0, 1), (0, 1), (0, 0), (0, 0)] := by show g_20.1 ++ _ = _; rw [s_20]; rfl
theorem n_21 : gC g_21 = 14 ∧ gS g_21 = 59 := by unfold gC gS; rw [s_21]; exact ⟨rfl, rfl⟩
def g_22 : GG := sR g_21 5 1 13
theorem f_22 : Fr g_22 := f_21.sR (by rw [s_21]; exact Nat.le_of_ble_eq_true rfl)
theorem s_22 : g_22.1 = [(1, 0), (1, 0), (0, 8), (0, 6), (3, 6), (2, 4), (0, 1), (0, 1), (0, 1), (0, 1), (0, 1), (0, 1), (0, 0), (0, 0)] := by show g_21.1 = _; exact s_21
theorem n_22 : gC g_22 = 14 ∧ gS g_22 = 59 := by unfold gC gS; rw [s_22]; exact ⟨rfl, rfl⟩
def g_23 : GG := aO g_22 (0, 0)
theorem f_23 : Fr g_23 := f_22.aO _
theorem s_23 : g_23.1 = [(1, 0), (1, 0), (0, 8), (0, 6), (3, 6), (2, 4), (0, 1), (0, 1), (0, 1), (0, 1), (0, 1), (0, 1), (0, 0), (0, 0), (0, 0)] := by show g_22.1 ++ _ = _; rw [s_22]; rfl
theorem n_23 : gC g_23 = 15 ∧ gS g_23 = 63 := by unfold gC gS; rw [s_23]; exact ⟨rfl, rfl⟩
def g_24 : GG := sR g_23 5 2 14
theorem f_24 : Fr g_24 := f_23.sR (by rw [s_23]; exact Nat.le_of_ble_eq_true rfl)
theorem s_24 : g_24.1 = [(1, 0), (1, 0), (0, 8), (0, 6), (3, 6), (2, 4), (0, 1), (0, 1), (0, 1), (0, 1), (0, 1), (0, 1), (0, 0), (0, 0), (0, 0)] := by show g_23.1 = _; exact s_23
theorem n_24 : gC g_24 = 15 ∧ gS g_24 = 63 := by unfold gC gS; rw [s_24]; exact ⟨rfl, rfl⟩
def g_25 : GG := aO g_24 (0, 0)
theorem f_25 : Fr g_25 := f_24.aO _
theorem s_25 : g_25.1 = [(1, 0), (1, 0), (0, 8), (0, 6), (3, 6), (2, 4), (0, 1), (0, 1), (0, 1), (0, 1), (0, 1), (0, 1), (0, 0), (0, 0), (0, 0), (0, 0)] := by show g_24.1 ++ _ = _; rw [s_24]; rfl
theorem n_25 : gC g_25 = 16 ∧ gS g_25 = 67 := by unfold gC gS; rw [s_25]; exact ⟨rfl, rfl⟩
def g_26 : GG := sR g_25 5 3 15
theorem f_26 : Fr g_26 := f_25.sR (by rw [s_25]; exact Nat.le_of_ble_eq_true rfl)
theorem s_26 : g_26.1 = [(1, 0), (1, 0), (0, 8), (0, 6), (3, 6), (2, 4), (0, 1), (0, 1), (0, 1), (0, 1), (0, 1), (0, 1), (0, 0), (0, 0), (0, 0), (0, 0)] := by show g_25.1 = _; exact s_25
theorem n_26 : gC g_26 = 16 ∧ gS g_26 = 67 := by unfold gC gS; rw [s_26]; exact ⟨rfl, rfl⟩
set_option maxRecDepth 4000 in
theorem C_Sp_init_1 : AMet y_Sp_init c_Sp_init 2 none 2 12 56 [vR 3] g_2 (fun o G' => o = none ∧ G' = g_26) := by
  refine AMet.of k_Sp_init (lo := [some (vR 3), none]) rfl (Nat.le_of_ble_eq_true rfl) (fun X hX hR hI0 => ?_)
  have hI := hI0 rfl
  refine v_aload_n (pc := 0) hX rfl d_Sp_init_0 ?_
  refine v_objInit (pc := 1) hX ml_Sp_3 rfl ⟨Nat.le_of_ble_eq_true rfl, Nat.le_of_ble_eq_true rfl⟩ (by decide) d_Sp_init_1 ?_
  refine v_aload_n (pc := 4) hX rfl d_Sp_init_4 ?_
  refine v_bipush (pc := 5) (v := 6) hX (by decide) d_Sp_init_5 ?_
  refine w_anew (pc := 7) (r := 4) (c := 1) (N := 6) (G' := g_3) hX f_2 (by decide) rfl cl_Sp_9 (by decide) (by decide) (by decide) (by rw [s_2]; rfl) ⟨by rw [n_2.1]; exact Nat.le_of_ble_eq_true rfl, by rw [n_2.2]; exact Nat.le_of_ble_eq_true rfl⟩ rfl d_Sp_init_7 ?_
  refine w_putF (pc := 10) (G' := g_4) hX hI fl_Sp_11 rfl (finF rfl rfl rfl) (by decide) (by rw [s_3]; rfl) (by decide) (fun _ => rfl) (fun _ => rfl) rfl d_Sp_init_10 ?_
  refine v_aload_n (pc := 13) hX rfl d_Sp_init_13 ?_
  refine v_iconst (pc := 14) (v := 4) hX (by decide) d_Sp_init_14 ?_
  refine w_anew (pc := 15) (r := 5) (c := 0) (N := 4) (G' := g_5) hX f_4 (by decide) rfl cl_Sp_17 (by decide) (by decide) (by decide) (by rw [s_4]; rfl) ⟨by rw [n_4.1]; exact Nat.le_of_ble_eq_true rfl, by rw [n_4.2]; exact Nat.le_of_ble_eq_true rfl⟩ rfl d_Sp_init_15 ?_
  refine w_putF (pc := 18) (G' := g_6) hX hI fl_Sp_19 rfl (finF rfl rfl rfl) (by decide) (by rw [s_5]; rfl) (by decide) (fun _ => rfl) (fun _ => rfl) rfl d_Sp_init_18 ?_
  refine v_iconst (pc := 21) (v := 0) hX (by decide) d_Sp_init_21 ?_
  refine v_istore_n (pc := 22) (lo' := [some (vR 3), some (vI (0))]) hX (by decide) rfl d_Sp_init_22 ?_
  refine v_iload_n (pc := 23) hX rfl d_Sp_init_23 ?_
  refine v_bipush (pc := 24) (v := 6) hX (by decide) d_Sp_init_24 ?_
  refine v_icmp_ge (pc := 26) (tgt := 48) hX d_Sp_init_26 rfl (fun hc => absurd hc (by decide)) (fun _ => ?_)
  refine v_aload_n (pc := 29) hX rfl d_Sp_init_29 ?_
  refine w_getR (pc := 30) (v := 4) hX fl_Sp_11 rfl (by decide) (by rw [s_6]; rfl) rfl d_Sp_init_30 ?_
  refine v_iload_n (pc := 33) hX rfl d_Sp_init_33 ?_
  refine w_new (pc := 34) (r := 6) (G' := g_7) hX f_6 cl_Sp_9 io_Ja ii_Ja rfl (by rw [s_6]; rfl) ⟨by rw [n_6.1]; exact Nat.le_of_ble_eq_true rfl, by rw [n_6.2]; exact Nat.le_of_ble_eq_true rfl⟩ rfl d_Sp_init_34 ?_
  refine v_dup (pc := 37) hX rfl d_Sp_init_37 ?_
  refine v_callI (pc := 38) (as := []) hX k_Ja_init rfl ki_Ja_init ml_Sp_23 (C_Ja_init (by decide)) (by decide) rfl rfl rfl ⟨Nat.le_of_ble_eq_true rfl, Nat.le_of_ble_eq_true rfl, Nat.le_of_ble_eq_true rfl, by rw [n_7.1]; exact Nat.le_of_ble_eq_true rfl, by rw [n_7.2]; exact Nat.le_of_ble_eq_true rfl⟩ (fun r G' h => by rw [h.2]; exact ⟨rfl, rfl⟩) d_Sp_init_38 (fun r G' h => ?_)
  obtain ⟨rfl, rfl⟩ := h
  refine VW.cast (lo' := [some (vR 3), some (vI (0))]) (st' := [vR 6, vI (0), vR 4]) (G' := g_7) rfl rfl rfl ?_
  refine w_aast (pc := 41) (c := 1) (n := 6) (j := 0) (G' := g_8) hX (by decide) (by decide) (by rw [s_7]; rfl) (by decide) (by rw [s_7]; rfl) (by unfold vp_in; decide) (by decide) rfl d_Sp_init_41 ?_
  refine v_iinc (pc := 42) (lo' := [some (vR 3), some (vI (1))]) hX rfl rfl d_Sp_init_42 ?_
  refine v_goto (pc := 45) (tgt := 23) hX d_Sp_init_45 rfl ?_
  refine v_iload_n (pc := 23) hX rfl d_Sp_init_23 ?_
  refine v_bipush (pc := 24) (v := 6) hX (by decide) d_Sp_init_24 ?_
  refine v_icmp_ge (pc := 26) (tgt := 48) hX d_Sp_init_26 rfl (fun hc => absurd hc (by decide)) (fun _ => ?_)
  refine v_aload_n (pc := 29) hX rfl d_Sp_init_29 ?_
  refine w_getR (pc := 30) (v := 4) hX fl_Sp_11 rfl (by decide) (by rw [s_8]; rfl) rfl d_Sp_init_30 ?_
  refine v_iload_n (pc := 33) hX rfl d_Sp_init_33 ?_
  refine w_new (pc := 34) (r := 7) (G' := g_9) hX f_8 cl_Sp_9 io_Ja ii_Ja rfl (by rw [s_8]; rfl) ⟨by rw [n_8.1]; exact Nat.le_of_ble_eq_true rfl, by rw [n_8.2]; exact Nat.le_of_ble_eq_true rfl⟩ rfl d_Sp_init_34 ?_
  refine v_dup (pc := 37) hX rfl d_Sp_init_37 ?_
  refine v_callI (pc := 38) (as := []) hX k_Ja_init rfl ki_Ja_init ml_Sp_23 (C_Ja_init (by decide)) (by decide) rfl rfl rfl ⟨Nat.le_of_ble_eq_true rfl, Nat.le_of_ble_eq_true rfl, Nat.le_of_ble_eq_true rfl, by rw [n_9.1]; exact Nat.le_of_ble_eq_true rfl, by rw [n_9.2]; exact Nat.le_of_ble_eq_true rfl⟩ (fun r G' h => by rw [h.2]; exact ⟨rfl, rfl⟩) d_Sp_init_38 (fun r G' h => ?_)
  obtain ⟨rfl, rfl⟩ := h
  refine VW.cast (lo' := [some (vR 3), some (vI (1))]) (st' := [vR 7, vI (1), vR 4]) (G' := g_9) rfl rfl rfl ?_
  refine w_aast (pc := 41) (c := 1) (n := 6) (j := 1) (G' := g_10) hX (by decide) (by decide) (by rw [s_9]; rfl) (by decide) (by rw [s_9]; rfl) (by unfold vp_in; decide) (by decide) rfl d_Sp_init_41 ?_
  refine v_iinc (pc := 42) (lo' := [some (vR 3), some (vI (2))]) hX rfl rfl d_Sp_init_42 ?_
  refine v_goto (pc := 45) (tgt := 23) hX d_Sp_init_45 rfl ?_
  refine v_iload_n (pc := 23) hX rfl d_Sp_init_23 ?_
  refine v_bipush (pc := 24) (v := 6) hX (by decide) d_Sp_init_24 ?_
  refine v_icmp_ge (pc := 26) (tgt := 48) hX d_Sp_init_26 rfl (fun hc => absurd hc (by decide)) (fun _ => ?_)
  refine v_aload_n (pc := 29) hX rfl d_Sp_init_29 ?_
  refine w_getR (pc := 30) (v := 4) hX fl_Sp_11 rfl (by decide) (by rw [s_10]; rfl) rfl d_Sp_init_30 ?_
  refine v_iload_n (pc := 33) hX rfl d_Sp_init_33 ?_
  refine w_new (pc := 34) (r := 8) (G' := g_11) hX f_10 cl_Sp_9 io_Ja ii_Ja rfl (by rw [s_10]; rfl) ⟨by rw [n_10.1]; exact Nat.le_of_ble_eq_true rfl, by rw [n_10.2]; exact Nat.le_of_ble_eq_true rfl⟩ rfl d_Sp_init_34 ?_
  refine v_dup (pc := 37) hX rfl d_Sp_init_37 ?_
  refine v_callI (pc := 38) (as := []) hX k_Ja_init rfl ki_Ja_init ml_Sp_23 (C_Ja_init (by decide)) (by decide) rfl rfl rfl ⟨Nat.le_of_ble_eq_true rfl, Nat.le_of_ble_eq_true rfl, Nat.le_of_ble_eq_true rfl, by rw [n_11.1]; exact Nat.le_of_ble_eq_true rfl, by rw [n_11.2]; exact Nat.le_of_ble_eq_true rfl⟩ (fun r G' h => by rw [h.2]; exact ⟨rfl, rfl⟩) d_Sp_init_38 (fun r G' h => ?_)
  obtain ⟨rfl, rfl⟩ := h
  refine VW.cast (lo' := [some (vR 3), some (vI (2))]) (st' := [vR 8, vI (2), vR 4]) (G' := g_11) rfl rfl rfl ?_
  refine w_aast (pc := 41) (c := 1) (n := 6) (j := 2) (G' := g_12) hX (by decide) (by decide) (by rw [s_11]; rfl) (by decide) (by rw [s_11]; rfl) (by unfold vp_in; decide) (by decide) rfl d_Sp_init_41 ?_
  refine v_iinc (pc := 42) (lo' := [some (vR 3), some (vI (3))]) hX rfl rfl d_Sp_init_42 ?_
  refine v_goto (pc := 45) (tgt := 23) hX d_Sp_init_45 rfl ?_
  refine v_iload_n (pc := 23) hX rfl d_Sp_init_23 ?_
  refine v_bipush (pc := 24) (v := 6) hX (by decide) d_Sp_init_24 ?_
  refine v_icmp_ge (pc := 26) (tgt := 48) hX d_Sp_init_26 rfl (fun hc => absurd hc (by decide)) (fun _ => ?_)
  refine v_aload_n (pc := 29) hX rfl d_Sp_init_29 ?_
  refine w_getR (pc := 30) (v := 4) hX fl_Sp_11 rfl (by decide) (by rw [s_12]; rfl) rfl d_Sp_init_30 ?_
  refine v_iload_n (pc := 33) hX rfl d_Sp_init_33 ?_
  refine w_new (pc := 34) (r := 9) (G' := g_13) hX f_12 cl_Sp_9 io_Ja ii_Ja rfl (by rw [s_12]; rfl) ⟨by rw [n_12.1]; exact Nat.le_of_ble_eq_true rfl, by rw [n_12.2]; exact Nat.le_of_ble_eq_true rfl⟩ rfl d_Sp_init_34 ?_
  refine v_dup (pc := 37) hX rfl d_Sp_init_37 ?_
  refine v_callI (pc := 38) (as := []) hX k_Ja_init rfl ki_Ja_init ml_Sp_23 (C_Ja_init (by decide)) (by decide) rfl rfl rfl ⟨Nat.le_of_ble_eq_true rfl, Nat.le_of_ble_eq_true rfl, Nat.le_of_ble_eq_true rfl, by rw [n_13.1]; exact Nat.le_of_ble_eq_true rfl, by rw [n_13.2]; exact Nat.le_of_ble_eq_true rfl⟩ (fun r G' h => by rw [h.2]; exact ⟨rfl, rfl⟩) d_Sp_init_38 (fun r G' h => ?_)
  obtain ⟨rfl, rfl⟩ := h
  refine VW.cast (lo' := [some (vR 3), some (vI (3))]) (st' := [vR 9, vI (3), vR 4]) (G' := g_13) rfl rfl rfl ?_
  refine w_aast (pc := 41) (c := 1) (n := 6) (j := 3) (G' := g_14) hX (by decide) (by decide) (by rw [s_13]; rfl) (by decide) (by rw [s_13]; rfl) (by unfold vp_in; decide) (by decide) rfl d_Sp_init_41 ?_
  refine v_iinc (pc := 42) (lo' := [some (vR 3), some (vI (4))]) hX rfl rfl d_Sp_init_42 ?_
  refine v_goto (pc := 45) (tgt := 23) hX d_Sp_init_45 rfl ?_
  refine v_iload_n (pc := 23) hX rfl d_Sp_init_23 ?_
  refine v_bipush (pc := 24) (v := 6) hX (by decide) d_Sp_init_24 ?_
  refine v_icmp_ge (pc := 26) (tgt := 48) hX d_Sp_init_26 rfl (fun hc => absurd hc (by decide)) (fun _ => ?_)
  refine v_aload_n (pc := 29) hX rfl d_Sp_init_29 ?_
  refine w_getR (pc := 30) (v := 4) hX fl_Sp_11 rfl (by decide) (by rw [s_14]; rfl) rfl d_Sp_init_30 ?_
  refine v_iload_n (pc := 33) hX rfl d_Sp_init_33 ?_
  refine w_new (pc := 34) (r := 10) (G' := g_15) hX f_14 cl_Sp_9 io_Ja ii_Ja rfl (by rw [s_14]; rfl) ⟨by rw [n_14.1]; exact Nat.le_of_ble_eq_true rfl, by rw [n_14.2]; exact Nat.le_of_ble_eq_true rfl⟩ rfl d_Sp_init_34 ?_
  refine v_dup (pc := 37) hX rfl d_Sp_init_37 ?_
  refine v_callI (pc := 38) (as := []) hX k_Ja_init rfl ki_Ja_init ml_Sp_23 (C_Ja_init (by decide)) (by decide) rfl rfl rfl ⟨Nat.le_of_ble_eq_true rfl, Nat.le_of_ble_eq_true rfl, Nat.le_of_ble_eq_true rfl, by rw [n_15.1]; exact Nat.le_of_ble_eq_true rfl, by rw [n_15.2]; exact Nat.le_of_ble_eq_true rfl⟩ (fun r G' h => by rw [h.2]; exact ⟨rfl, rfl⟩) d_Sp_init_38 (fun r G' h => ?_)
  obtain ⟨rfl, rfl⟩ := h
  refine VW.cast (lo' := [some (vR 3), some (vI (4))]) (st' := [vR 10, vI (4), vR 4]) (G' := g_15) rfl rfl rfl ?_
  refine w_aast (pc := 41) (c := 1) (n := 6) (j := 4) (G' := g_16) hX (by decide) (by decide) (by rw [s_15]; rfl) (by decide) (by rw [s_15]; rfl) (by unfold vp_in; decide) (by decide) rfl d_Sp_init_41 ?_
  refine v_iinc (pc := 42) (lo' := [some (vR 3), some (vI (5))]) hX rfl rfl d_Sp_init_42 ?_
  refine v_goto (pc := 45) (tgt := 23) hX d_Sp_init_45 rfl ?_
  refine v_iload_n (pc := 23) hX rfl d_Sp_init_23 ?_
  refine v_bipush (pc := 24) (v := 6) hX (by decide) d_Sp_init_24 ?_
  refine v_icmp_ge (pc := 26) (tgt := 48) hX d_Sp_init_26 rfl (fun hc => absurd hc (by decide)) (fun _ => ?_)
  refine v_aload_n (pc := 29) hX rfl d_Sp_init_29 ?_
  refine w_getR (pc := 30) (v := 4) hX fl_Sp_11 rfl (by decide) (by rw [s_16]; rfl) rfl d_Sp_init_30 ?_
  refine v_iload_n (pc := 33) hX rfl d_Sp_init_33 ?_
  refine w_new (pc := 34) (r := 11) (G' := g_17) hX f_16 cl_Sp_9 io_Ja ii_Ja rfl (by rw [s_16]; rfl) ⟨by rw [n_16.1]; exact Nat.le_of_ble_eq_true rfl, by rw [n_16.2]; exact Nat.le_of_ble_eq_true rfl⟩ rfl d_Sp_init_34 ?_
  refine v_dup (pc := 37) hX rfl d_Sp_init_37 ?_
  refine v_callI (pc := 38) (as := []) hX k_Ja_init rfl ki_Ja_init ml_Sp_23 (C_Ja_init (by decide)) (by decide) rfl rfl rfl ⟨Nat.le_of_ble_eq_true rfl, Nat.le_of_ble_eq_true rfl, Nat.le_of_ble_eq_true rfl, by rw [n_17.1]; exact Nat.le_of_ble_eq_true rfl, by rw [n_17.2]; exact Nat.le_of_ble_eq_true rfl⟩ (fun r G' h => by rw [h.2]; exact ⟨rfl, rfl⟩) d_Sp_init_38 (fun r G' h => ?_)
  obtain ⟨rfl, rfl⟩ := h
  refine VW.cast (lo' := [some (vR 3), some (vI (5))]) (st' := [vR 11, vI (5), vR 4]) (G' := g_17) rfl rfl rfl ?_
  refine w_aast (pc := 41) (c := 1) (n := 6) (j := 5) (G' := g_18) hX (by decide) (by decide) (by rw [s_17]; rfl) (by decide) (by rw [s_17]; rfl) (by unfold vp_in; decide) (by decide) rfl d_Sp_init_41 ?_
  refine v_iinc (pc := 42) (lo' := [some (vR 3), some (vI (6))]) hX rfl rfl d_Sp_init_42 ?_
  refine v_goto (pc := 45) (tgt := 23) hX d_Sp_init_45 rfl ?_
  refine v_iload_n (pc := 23) hX rfl d_Sp_init_23 ?_
  refine v_bipush (pc := 24) (v := 6) hX (by decide) d_Sp_init_24 ?_
  refine v_icmp_ge (pc := 26) (tgt := 48) hX d_Sp_init_26 rfl (fun _ => ?_) (fun hc => absurd (by decide) hc)
  refine v_iconst (pc := 48) (v := 0) hX (by decide) d_Sp_init_48 ?_
  refine v_istore_n (pc := 49) (lo' := [some (vR 3), some (vI (0))]) hX (by decide) rfl d_Sp_init_49 ?_
  refine v_iload_n (pc := 50) hX rfl d_Sp_init_50 ?_
  refine v_iconst (pc := 51) (v := 4) hX (by decide) d_Sp_init_51 ?_
  refine v_icmp_ge (pc := 52) (tgt := 74) hX d_Sp_init_52 rfl (fun hc => absurd hc (by decide)) (fun _ => ?_)
  refine v_aload_n (pc := 55) hX rfl d_Sp_init_55 ?_
  refine w_getR (pc := 56) (v := 5) hX fl_Sp_19 rfl (by decide) (by rw [s_18]; rfl) rfl d_Sp_init_56 ?_
  refine v_iload_n (pc := 59) hX rfl d_Sp_init_59 ?_
  refine w_new (pc := 60) (r := 12) (G' := g_19) hX f_18 cl_Sp_17 io_De ii_De rfl (by rw [s_18]; rfl) ⟨by rw [n_18.1]; exact Nat.le_of_ble_eq_true rfl, by rw [n_18.2]; exact Nat.le_of_ble_eq_true rfl⟩ rfl d_Sp_init_60 ?_
  refine v_dup (pc := 63) hX rfl d_Sp_init_63 ?_
  refine v_callI (pc := 64) (as := []) hX k_De_init rfl ki_De_init ml_Sp_24 (C_De_init (by decide)) (by decide) rfl rfl rfl ⟨Nat.le_of_ble_eq_true rfl, Nat.le_of_ble_eq_true rfl, Nat.le_of_ble_eq_true rfl, by rw [n_19.1]; exact Nat.le_of_ble_eq_true rfl, by rw [n_19.2]; exact Nat.le_of_ble_eq_true rfl⟩ (fun r G' h => by rw [h.2]; exact ⟨rfl, rfl⟩) d_Sp_init_64 (fun r G' h => ?_)
  obtain ⟨rfl, rfl⟩ := h
  refine VW.cast (lo' := [some (vR 3), some (vI (0))]) (st' := [vR 12, vI (0), vR 5]) (G' := g_19) rfl rfl rfl ?_
  refine w_aast (pc := 67) (c := 0) (n := 4) (j := 0) (G' := g_20) hX (by decide) (by decide) (by rw [s_19]; rfl) (by decide) (by rw [s_19]; rfl) (by unfold vp_in; decide) (by decide) rfl d_Sp_init_67 ?_
  refine v_iinc (pc := 68) (lo' := [some (vR 3), some (vI (1))]) hX rfl rfl d_Sp_init_68 ?_
  refine v_goto (pc := 71) (tgt := 50) hX d_Sp_init_71 rfl ?_
  refine v_iload_n (pc := 50) hX rfl d_Sp_init_50 ?_
  refine v_iconst (pc := 51) (v := 4) hX (by decide) d_Sp_init_51 ?_
  refine v_icmp_ge (pc := 52) (tgt := 74) hX d_Sp_init_52 rfl (fun hc => absurd hc (by decide)) (fun _ => ?_)
  refine v_aload_n (pc := 55) hX rfl d_Sp_init_55 ?_
  refine w_getR (pc := 56) (v := 5) hX fl_Sp_19 rfl (by decide) (by rw [s_20]; rfl) rfl d_Sp_init_56 ?_
  refine v_iload_n (pc := 59) hX rfl d_Sp_init_59 ?_
  refine w_new (pc := 60) (r := 13) (G' := g_21) hX f_20 cl_Sp_17 io_De ii_De rfl (by rw [s_20]; rfl) ⟨by rw [n_20.1]; exact Nat.le_of_ble_eq_true rfl, by rw [n_20.2]; exact Nat.le_of_ble_eq_true rfl⟩ rfl d_Sp_init_60 ?_
  refine v_dup (pc := 63) hX rfl d_Sp_init_63 ?_
  refine v_callI (pc := 64) (as := []) hX k_De_init rfl ki_De_init ml_Sp_24 (C_De_init (by decide)) (by decide) rfl rfl rfl ⟨Nat.le_of_ble_eq_true rfl, Nat.le_of_ble_eq_true rfl, Nat.le_of_ble_eq_true rfl, by rw [n_21.1]; exact Nat.le_of_ble_eq_true rfl, by rw [n_21.2]; exact Nat.le_of_ble_eq_true rfl⟩ (fun r G' h => by rw [h.2]; exact ⟨rfl, rfl⟩) d_Sp_init_64 (fun r G' h => ?_)
  obtain ⟨rfl, rfl⟩ := h
  refine VW.cast (lo' := [some (vR 3), some (vI (1))]) (st' := [vR 13, vI (1), vR 5]) (G' := g_21) rfl rfl rfl ?_
  refine w_aast (pc := 67) (c := 0) (n := 4) (j := 1) (G' := g_22) hX (by decide) (by decide) (by rw [s_21]; rfl) (by decide) (by rw [s_21]; rfl) (by unfold vp_in; decide) (by decide) rfl d_Sp_init_67 ?_
  refine v_iinc (pc := 68) (lo' := [some (vR 3), some (vI (2))]) hX rfl rfl d_Sp_init_68 ?_
  refine v_goto (pc := 71) (tgt := 50) hX d_Sp_init_71 rfl ?_
  refine v_iload_n (pc := 50) hX rfl d_Sp_init_50 ?_
  refine v_iconst (pc := 51) (v := 4) hX (by decide) d_Sp_init_51 ?_
  refine v_icmp_ge (pc := 52) (tgt := 74) hX d_Sp_init_52 rfl (fun hc => absurd hc (by decide)) (fun _ => ?_)
  refine v_aload_n (pc := 55) hX rfl d_Sp_init_55 ?_
  refine w_getR (pc := 56) (v := 5) hX fl_Sp_19 rfl (by decide) (by rw [s_22]; rfl) rfl d_Sp_init_56 ?_
  refine v_iload_n (pc := 59) hX rfl d_Sp_init_59 ?_
  refine w_new (pc := 60) (r := 14) (G' := g_23) hX f_22 cl_Sp_17 io_De ii_De rfl (by rw [s_22]; rfl) ⟨by rw [n_22.1]; exact Nat.le_of_ble_eq_true rfl, by rw [n_22.2]; exact Nat.le_of_ble_eq_true rfl⟩ rfl d_Sp_init_60 ?_
  refine v_dup (pc := 63) hX rfl d_Sp_init_63 ?_
  refine v_callI (pc := 64) (as := []) hX k_De_init rfl ki_De_init ml_Sp_24 (C_De_init (by decide)) (by decide) rfl rfl rfl ⟨Nat.le_of_ble_eq_true rfl, Nat.le_of_ble_eq_true rfl, Nat.le_of_ble_eq_true rfl, by rw [n_23.1]; exact Nat.le_of_ble_eq_true rfl, by rw [n_23.2]; exact Nat.le_of_ble_eq_true rfl⟩ (fun r G' h => by rw [h.2]; exact ⟨rfl, rfl⟩) d_Sp_init_64 (fun r G' h => ?_)
  obtain ⟨rfl, rfl⟩ := h
  refine VW.cast (lo' := [some (vR 3), some (vI (2))]) (st' := [vR 14, vI (2), vR 5]) (G' := g_23) rfl rfl rfl ?_
  refine w_aast (pc := 67) (c := 0) (n := 4) (j := 2) (G' := g_24) hX (by decide) (by decide) (by rw [s_23]; rfl) (by decide) (by rw [s_23]; rfl) (by unfold vp_in; decide) (by decide) rfl d_Sp_init_67 ?_
  refine v_iinc (pc := 68) (lo' := [some (vR 3), some (vI (3))]) hX rfl rfl d_Sp_init_68 ?_
  refine v_goto (pc := 71) (tgt := 50) hX d_Sp_init_71 rfl ?_
  refine v_iload_n (pc := 50) hX rfl d_Sp_init_50 ?_
  refine v_iconst (pc := 51) (v := 4) hX (by decide) d_Sp_init_51 ?_
  refine v_icmp_ge (pc := 52) (tgt := 74) hX d_Sp_init_52 rfl (fun hc => absurd hc (by decide)) (fun _ => ?_)
  refine v_aload_n (pc := 55) hX rfl d_Sp_init_55 ?_
  refine w_getR (pc := 56) (v := 5) hX fl_Sp_19 rfl (by decide) (by rw [s_24]; rfl) rfl d_Sp_init_56 ?_
  refine v_iload_n (pc := 59) hX rfl d_Sp_init_59 ?_
  refine w_new (pc := 60) (r := 15) (G' := g_25) hX f_24 cl_Sp_17 io_De ii_De rfl (by rw [s_24]; rfl) ⟨by rw [n_24.1]; exact Nat.le_of_ble_eq_true rfl, by rw [n_24.2]; exact Nat.le_of_ble_eq_true rfl⟩ rfl d_Sp_init_60 ?_
  refine v_dup (pc := 63) hX rfl d_Sp_init_63 ?_
  refine v_callI (pc := 64) (as := []) hX k_De_init rfl ki_De_init ml_Sp_24 (C_De_init (by decide)) (by decide) rfl rfl rfl ⟨Nat.le_of_ble_eq_true rfl, Nat.le_of_ble_eq_true rfl, Nat.le_of_ble_eq_true rfl, by rw [n_25.1]; exact Nat.le_of_ble_eq_true rfl, by rw [n_25.2]; exact Nat.le_of_ble_eq_true rfl⟩ (fun r G' h => by rw [h.2]; exact ⟨rfl, rfl⟩) d_Sp_init_64 (fun r G' h => ?_)
  obtain ⟨rfl, rfl⟩ := h
  refine VW.cast (lo' := [some (vR 3), some (vI (3))]) (st' := [vR 15, vI (3), vR 5]) (G' := g_25) rfl rfl rfl ?_
  refine w_aast (pc := 67) (c := 0) (n := 4) (j := 3) (G' := g_26) hX (by decide) (by decide) (by rw [s_25]; rfl) (by decide) (by rw [s_25]; rfl) (by unfold vp_in; decide) (by decide) rfl d_Sp_init_67 ?_
  refine v_iinc (pc := 68) (lo' := [some (vR 3), some (vI (4))]) hX rfl rfl d_Sp_init_68 ?_
  refine v_goto (pc := 71) (tgt := 50) hX d_Sp_init_71 rfl ?_
  refine v_iload_n (pc := 50) hX rfl d_Sp_init_50 ?_
  refine v_iconst (pc := 51) (v := 4) hX (by decide) d_Sp_init_51 ?_
  refine v_icmp_ge (pc := 52) (tgt := 74) hX d_Sp_init_52 rfl (fun _ => ?_) (fun hc => absurd (by decide) hc)
  exact v_vret (pc := 74) hX hR (by rw [n_26.1, n_2.1]) (by rw [n_26.2, n_2.2]) ⟨rfl, rfl⟩ d_Sp_init_74
def g_27 : GG := sR g_26 2 0 3
theorem f_27 : Fr g_27 := f_26.sR (by rw [s_26]; exact Nat.le_of_ble_eq_true rfl)
theorem s_27 : g_27.1 = [(1, 0), (1, 0), (0, 8), (0, 6), (3, 6), (2, 4), (0, 1), (0, 1), (0, 1), (0, 1), (0, 1), (0, 1), (0, 0), (0, 0), (0, 0), (0, 0)] := by show g_26.1 = _; exact s_26
theorem n_27 : gC g_27 = 16 ∧ gS g_27 = 67 := by unfold gC gS; rw [s_27]; exact ⟨rfl, rfl⟩
def g_28 : GG := aO g_27 (0, 3)
theorem f_28 : Fr g_28 := f_27.aO _
theorem s_28 : g_28.1 = [(1, 0), (1, 0), (0, 8), (0, 6), (3, 6), (2, 4), (0, 1), (0, 1), (0, 1), (0, 1), (0, 1), (0, 1), (0, 0), (0, 0), (0, 0), (0, 0), (0, 3)] := by show g_27.1 ++ _ = _; rw [s_27]; rfl
theorem n_28 : gC g_28 = 17 ∧ gS g_28 = 72 := by unfold gC gS; rw [s_28]; exact ⟨rfl, rfl⟩
theorem d_Sa_init_0 : decode c_Sa_init 0 = .ok (.aload_n 0, 1) := by decide +kernel
theorem d_Sa_init_1 : decode c_Sa_init 1 = .ok (.invokespecial 3, 3) := by decide +kernel
theorem d_Sa_init_4 : decode c_Sa_init 4 = .ok (.aload_n 0, 1) := by decide +kernel
theorem d_Sa_init_5 : decode c_Sa_init 5 = .ok (.bipush 6, 2) := by decide +kernel
theorem d_Sa_init_7 : decode c_Sa_init 7 = .ok (.newarray .int, 2) := by decide +kernel
theorem d_Sa_init_9 : decode c_Sa_init 9 = .ok (.putfield 9, 3) := by decide +kernel
theorem d_Sa_init_12 : decode c_Sa_init 12 = .ok (.aload_n 0, 1) := by decide +kernel
theorem d_Sa_init_13 : decode c_Sa_init 13 = .ok (.iconst 4, 1) := by decide +kernel
theorem d_Sa_init_14 : decode c_Sa_init 14 = .ok (.newarray .int, 2) := by decide +kernel
theorem d_Sa_init_16 : decode c_Sa_init 16 = .ok (.putfield 15, 3) := by decide +kernel
theorem d_Sa_init_19 : decode c_Sa_init 19 = .ok (.return_, 1) := by decide +kernel
def g_29 : GG := aO g_28 (1, 6)
theorem f_29 : Fr g_29 := f_28.aO _
theorem s_29 : g_29.1 = [(1, 0), (1, 0), (0, 8), (0, 6), (3, 6), (2, 4), (0, 1), (0, 1), (0, 1), (0, 1), (0, 1), (0, 1), (0, 0), (0, 0), (0, 0), (0, 0), (0, 3), (1, 6)] := by show g_28.1 ++ _ = _; rw [s_28]; rfl
theorem n_29 : gC g_29 = 18 ∧ gS g_29 = 78 := by unfold gC gS; rw [s_29]; exact ⟨rfl, rfl⟩
def g_30 : GG := sR g_29 16 0 17
theorem f_30 : Fr g_30 := f_29.sR (by rw [s_29]; exact Nat.le_of_ble_eq_true rfl)
theorem s_30 : g_30.1 = [(1, 0), (1, 0), (0, 8), (0, 6), (3, 6), (2, 4), (0, 1), (0, 1), (0, 1), (0, 1), (0, 1), (0, 1), (0, 0), (0, 0), (0, 0), (0, 0), (0, 3), (1, 6)] := by show g_29.1 = _; exact s_29
theorem n_30 : gC g_30 = 18 ∧ gS g_30 = 78 := by unfold gC gS; rw [s_30]; exact ⟨rfl, rfl⟩
def g_31 : GG := aO g_30 (1, 4)
theorem f_31 : Fr g_31 := f_30.aO _
theorem s_31 : g_31.1 = [(1, 0), (1, 0), (0, 8), (0, 6), (3, 6), (2, 4), (0, 1), (0, 1), (0, 1), (0, 1), (0, 1), (0, 1), (0, 0), (0, 0), (0, 0), (0, 0), (0, 3), (1, 6), (1, 4)] := by show g_30.1 ++ _ = _; rw [s_30]; rfl
theorem n_31 : gC g_31 = 19 ∧ gS g_31 = 82 := by unfold gC gS; rw [s_31]; exact ⟨rfl, rfl⟩
def g_32 : GG := sR g_31 16 1 18
theorem f_32 : Fr g_32 := f_31.sR (by rw [s_31]; exact Nat.le_of_ble_eq_true rfl)
theorem s_32 : g_32.1 = [(1, 0), (1, 0), (0, 8), (0, 6), (3, 6), (2, 4), (0, 1), (0, 1), (0, 1), (0, 1), (0, 1), (0, 1), (0, 0), (0, 0), (0, 0), (0, 0), (0, 3), (1, 6), (1, 4)] := by show g_31.1 = _; exact s_31
theorem n_32 : gC g_32 = 19 ∧ gS g_32 = 82 := by unfold gC gS; rw [s_32]; exact ⟨rfl, rfl⟩
set_option maxRecDepth 4000 in
theorem C_Sa_init_1 : AMet y_Sa_init c_Sa_init 1 none 1 2 10 [vR 16] g_28 (fun o G' => o = none ∧ G' = g_32) := by
  refine AMet.of k_Sa_init (lo := [some (vR 16)]) rfl (Nat.le_of_ble_eq_true rfl) (fun X hX hR hI0 => ?_)
  have hI := hI0 rfl
  refine v_aload_n (pc := 0) hX rfl d_Sa_init_0 ?_
  refine v_objInit (pc := 1) hX ml_Sa_3 rfl ⟨Nat.le_of_ble_eq_true rfl, Nat.le_of_ble_eq_true rfl⟩ (by decide) d_Sa_init_1 ?_
  refine v_aload_n (pc := 4) hX rfl d_Sa_init_4 ?_
  refine v_bipush (pc := 5) (v := 6) hX (by decide) d_Sa_init_5 ?_
  refine w_newarr (pc := 7) (r := 17) (N := 6) (G' := g_29) hX f_28 (by decide) (by decide) (by decide) (by rw [s_28]; rfl) ⟨by rw [n_28.1]; exact Nat.le_of_ble_eq_true rfl, by rw [n_28.2]; exact Nat.le_of_ble_eq_true rfl⟩ rfl d_Sa_init_7 ?_
  refine w_putF (pc := 9) (G' := g_30) hX hI fl_Sa_9 rfl (finF rfl rfl rfl) (by decide) (by rw [s_29]; rfl) (by decide) (fun _ => rfl) (fun _ => rfl) rfl d_Sa_init_9 ?_
  refine v_aload_n (pc := 12) hX rfl d_Sa_init_12 ?_
  refine v_iconst (pc := 13) (v := 4) hX (by decide) d_Sa_init_13 ?_
  refine w_newarr (pc := 14) (r := 18) (N := 4) (G' := g_31) hX f_30 (by decide) (by decide) (by decide) (by rw [s_30]; rfl) ⟨by rw [n_30.1]; exact Nat.le_of_ble_eq_true rfl, by rw [n_30.2]; exact Nat.le_of_ble_eq_true rfl⟩ rfl d_Sa_init_14 ?_
  refine w_putF (pc := 16) (G' := g_32) hX hI fl_Sa_15 rfl (finF rfl rfl rfl) (by decide) (by rw [s_31]; rfl) (by decide) (fun _ => rfl) (fun _ => rfl) rfl d_Sa_init_16 ?_
  exact v_vret (pc := 19) hX hR (by rw [n_32.1, n_28.1]) (by rw [n_32.2, n_28.2]) ⟨rfl, rfl⟩ d_Sa_init_19
def g_33 : GG := sR g_32 2 1 16
theorem f_33 : Fr g_33 := f_32.sR (by rw [s_32]; exact Nat.le_of_ble_eq_true rfl)
theorem s_33 : g_33.1 = [(1, 0), (1, 0), (0, 8), (0, 6), (3, 6), (2, 4), (0, 1), (0, 1), (0, 1), (0, 1), (0, 1), (0, 1), (0, 0), (0, 0), (0, 0), (0, 0), (0, 3), (1, 6), (1, 4)] := by show g_32.1 = _; exact s_32
theorem n_33 : gC g_33 = 19 ∧ gS g_33 = 82 := by unfold gC gS; rw [s_33]; exact ⟨rfl, rfl⟩
def g_34 : GG := aO g_33 (0, 4)
theorem f_34 : Fr g_34 := f_33.aO _
theorem s_34 : g_34.1 = [(1, 0), (1, 0), (0, 8), (0, 6), (3, 6), (2, 4), (0, 1), (0, 1), (0, 1), (0, 1), (0, 1), (0, 1), (0, 0), (0, 0), (0, 0), (0, 0), (0, 3), (1, 6), (1, 4), (0, 4)] := by show g_33.1 ++ _ = _; rw [s_33]; rfl
theorem n_34 : gC g_34 = 20 ∧ gS g_34 = 84 := by unfold gC gS; rw [s_34]; exact ⟨rfl, rfl⟩
theorem d_Se_init_0 : decode c_Se_init 0 = .ok (.aload_n 0, 1) := by decide +kernel
theorem d_Se_init_1 : decode c_Se_init 1 = .ok (.invokespecial 3, 3) := by decide +kernel
theorem d_Se_init_4 : decode c_Se_init 4 = .ok (.aload_n 0, 1) := by decide +kernel
theorem d_Se_init_5 : decode c_Se_init 5 = .ok (.bipush 6, 2) := by decide +kernel
theorem d_Se_init_7 : decode c_Se_init 7 = .ok (.newarray .int, 2) := by decide +kernel
theorem d_Se_init_9 : decode c_Se_init 9 = .ok (.putfield 9, 3) := by decide +kernel
theorem d_Se_init_12 : decode c_Se_init 12 = .ok (.aload_n 0, 1) := by decide +kernel
theorem d_Se_init_13 : decode c_Se_init 13 = .ok (.iconst 4, 1) := by decide +kernel
theorem d_Se_init_14 : decode c_Se_init 14 = .ok (.newarray .int, 2) := by decide +kernel
theorem d_Se_init_16 : decode c_Se_init 16 = .ok (.putfield 15, 3) := by decide +kernel
theorem d_Se_init_19 : decode c_Se_init 19 = .ok (.return_, 1) := by decide +kernel
def g_35 : GG := aO g_34 (1, 6)
theorem f_35 : Fr g_35 := f_34.aO _
theorem s_35 : g_35.1 = [(1, 0), (1, 0), (0, 8), (0, 6), (3, 6), (2, 4), (0, 1), (0, 1), (0, 1), (0, 1), (0, 1), (0, 1), (0, 0), (0, 0), (0, 0), (0, 0), (0, 3), (1, 6), (1, 4), (0, 4), (1, 6)] := by show g_34.1 ++ _ = _; rw [s_34]; rfl
theorem n_35 : gC g_35 = 21 ∧ gS g_35 = 90 := by unfold gC gS; rw [s_35]; exact ⟨rfl, rfl⟩
def g_36 : GG := sR g_35 19 0 20
theorem f_36 : Fr g_36 := f_35.sR (by rw [s_35]; exact Nat.le_of_ble_eq_true rfl)
theorem s_36 : g_36.1 = [(1, 0), (1, 0), (0, 8), (0, 6), (3, 6), (2, 4), (0, 1), (0, 1), (0, 1), (0, 1), (0, 1), (0, 1), (0, 0), (0, 0), (0, 0), (0, 0), (0, 3), (1, 6), (1, 4), (0, 4), (1, 6)] := by show g_35.1 = _; exact s_35
theorem n_36 : gC g_36 = 21 ∧ gS g_36 = 90 := by unfold gC gS; rw [s_36]; exact ⟨rfl, rfl⟩
def g_37 : GG := aO g_36 (1, 4)
theorem f_37 : Fr g_37 := f_36.aO _
theorem s_37 : g_37.1 = [(1, 0), (1, 0), (0, 8), (0, 6), (3, 6), (2, 4), (0, 1), (0, 1), (0, 1), (0, 1), (0, 1), (0, 1), (0, 0), (0, 0), (0, 0), (0, 0), (0, 3), (1, 6), (1, 4), (0, 4), (1, 6), (1, 4)] := by show g_36.1 ++ _ = _; rw [s_36]; rfl
theorem n_37 : gC g_37 = 22 ∧ gS g_37 = 94 := by unfold gC gS; rw [s_37]; exact ⟨rfl, rfl⟩
def g_38 : GG := sR g_37 19 1 21
theorem f_38 : Fr g_38 := f_37.sR (by rw [s_37]; exact Nat.le_of_ble_eq_true rfl)
theorem s_38 : g_38.1 = [(1, 0), (1, 0), (0, 8), (0, 6), (3, 6), (2, 4), (0, 1), (0, 1), (0, 1), (0, 1), (0, 1), (0, 1), (0, 0), (0, 0), (0, 0), (0, 0), (0, 3), (1, 6), (1, 4), (0, 4), (1, 6), (1, 4)] := by show g_37.1 = _; exact s_37
theorem n_38 : gC g_38 = 22 ∧ gS g_38 = 94 := by unfold gC gS; rw [s_38]; exact ⟨rfl, rfl⟩
set_option maxRecDepth 4000 in
theorem C_Se_init_1 : AMet y_Se_init c_Se_init 1 none 1 2 10 [vR 19] g_34 (fun o G' => o = none ∧ G' = g_38) := by
  refine AMet.of k_Se_init (lo := [some (vR 19)]) rfl (Nat.le_of_ble_eq_true rfl) (fun X hX hR hI0 => ?_)
  have hI := hI0 rfl
  refine v_aload_n (pc := 0) hX rfl d_Se_init_0 ?_
  refine v_objInit (pc := 1) hX ml_Se_3 rfl ⟨Nat.le_of_ble_eq_true rfl, Nat.le_of_ble_eq_true rfl⟩ (by decide) d_Se_init_1 ?_
  refine v_aload_n (pc := 4) hX rfl d_Se_init_4 ?_
  refine v_bipush (pc := 5) (v := 6) hX (by decide) d_Se_init_5 ?_
  refine w_newarr (pc := 7) (r := 20) (N := 6) (G' := g_35) hX f_34 (by decide) (by decide) (by decide) (by rw [s_34]; rfl) ⟨by rw [n_34.1]; exact Nat.le_of_ble_eq_true rfl, by rw [n_34.2]; exact Nat.le_of_ble_eq_true rfl⟩ rfl d_Se_init_7 ?_
  refine w_putF (pc := 9) (G' := g_36) hX hI fl_Se_9 rfl (finF rfl rfl rfl) (by decide) (by rw [s_35]; rfl) (by decide) (fun _ => rfl) (fun _ => rfl) rfl d_Se_init_9 ?_
  refine v_aload_n (pc := 12) hX rfl d_Se_init_12 ?_
  refine v_iconst (pc := 13) (v := 4) hX (by decide) d_Se_init_13 ?_
  refine w_newarr (pc := 14) (r := 21) (N := 4) (G' := g_37) hX f_36 (by decide) (by decide) (by decide) (by rw [s_36]; rfl) ⟨by rw [n_36.1]; exact Nat.le_of_ble_eq_true rfl, by rw [n_36.2]; exact Nat.le_of_ble_eq_true rfl⟩ rfl d_Se_init_14 ?_
  refine w_putF (pc := 16) (G' := g_38) hX hI fl_Se_15 rfl (finF rfl rfl rfl) (by decide) (by rw [s_37]; rfl) (by decide) (fun _ => rfl) (fun _ => rfl) rfl d_Se_init_16 ?_
  exact v_vret (pc := 19) hX hR (by rw [n_38.1, n_34.1]) (by rw [n_38.2, n_34.2]) ⟨rfl, rfl⟩ d_Se_init_19
def g_39 : GG := sR g_38 2 2 19
theorem f_39 : Fr g_39 := f_38.sR (by rw [s_38]; exact Nat.le_of_ble_eq_true rfl)
theorem s_39 : g_39.1 = [(1, 0), (1, 0), (0, 8), (0, 6), (3, 6), (2, 4), (0, 1), (0, 1), (0, 1), (0, 1), (0, 1), (0, 1), (0, 0), (0, 0), (0, 0), (0, 0), (0, 3), (1, 6), (1, 4), (0, 4), (1, 6), (1, 4)] := by show g_38.1 = _; exact s_38
theorem n_39 : gC g_39 = 22 ∧ gS g_39 = 94 := by unfold gC gS; rw [s_39]; exact ⟨rfl, rfl⟩
def g_40 : GG := aO g_39 (0, 2)
theorem f_40 : Fr g_40 := f_39.aO _
theorem s_40 : g_40.1 = [(1, 0), (1, 0), (0, 8), (0, 6), (3, 6), (2, 4), (0, 1), (0, 1), (0, 1), (0, 1), (0, 1), (0, 1), (0, 0), (0, 0), (0, 0), (0, 0), (0, 3), (1, 6), (1, 4), (0, 4), (1, 6), (1, 4), (0, 2)] := by show g_39.1 ++ _ = _; rw [s_39]; rfl
theorem n_40 : gC g_40 = 23 ∧ gS g_40 = 98 := by unfold gC gS; rw [s_40]; exact ⟨rfl, rfl⟩
theorem d_Re_init_0 : decode c_Re_init 0 = .ok (.aload_n 0, 1) := by decide +kernel
theorem d_Re_init_1 : decode c_Re_init 1 = .ok (.invokespecial 3, 3) := by decide +kernel
theorem d_Re_init_4 : decode c_Re_init 4 = .ok (.aload_n 0, 1) := by decide +kernel
theorem d_Re_init_5 : decode c_Re_init 5 = .ok (.bipush 8, 2) := by decide +kernel
theorem d_Re_init_7 : decode c_Re_init 7 = .ok (.newarray .int, 2) := by decide +kernel
theorem d_Re_init_9 : decode c_Re_init 9 = .ok (.putfield 9, 3) := by decide +kernel
theorem d_Re_init_12 : decode c_Re_init 12 = .ok (.aload_n 0, 1) := by decide +kernel
theorem d_Re_init_13 : decode c_Re_init 13 = .ok (.bipush 8, 2) := by decide +kernel
theorem d_Re_init_15 : decode c_Re_init 15 = .ok (.newarray .int, 2) := by decide +kernel
theorem d_Re_init_17 : decode c_Re_init 17 = .ok (.putfield 15, 3) := by decide +kernel
theorem d_Re_init_20 : decode c_Re_init 20 = .ok (.aload_n 0, 1) := by decide +kernel
theorem d_Re_init_21 : decode c_Re_init 21 = .ok (.bipush 8, 2) := by decide +kernel
theorem d_Re_init_23 : decode c_Re_init 23 = .ok (.newarray .int, 2) := by decide +kernel
theorem d_Re_init_25 : decode c_Re_init 25 = .ok (.putfield 18, 3) := by decide +kernel
theorem d_Re_init_28 : decode c_Re_init 28 = .ok (.return_, 1) := by decide +kernel
def g_41 : GG := aO g_40 (1, 8)
theorem f_41 : Fr g_41 := f_40.aO _
theorem s_41 : g_41.1 = [(1, 0), (1, 0), (0, 8), (0, 6), (3, 6), (2, 4), (0, 1), (0, 1), (0, 1), (0, 1), (0, 1), (0, 1), (0, 0), (0, 0), (0, 0), (0, 0), (0, 3), (1, 6), (1, 4), (0, 4), (1, 6), (1, 4), (0, 2), (1, 8)] := by show g_40.1 ++ _ = _; rw [s_40]; rfl
theorem n_41 : gC g_41 = 24 ∧ gS g_41 = 106 := by unfold gC gS; rw [s_41]; exact ⟨rfl, rfl⟩
def g_42 : GG := sR g_41 22 0 23
theorem f_42 : Fr g_42 := f_41.sR (by rw [s_41]; exact Nat.le_of_ble_eq_true rfl)
theorem s_42 : g_42.1 = [(1, 0), (1, 0), (0, 8), (0, 6), (3, 6), (2, 4), (0, 1), (0, 1), (0, 1), (0, 1), (0, 1), (0, 1), (0, 0), (0, 0), (0, 0), (0, 0), (0, 3), (1, 6), (1, 4), (0, 4), (1, 6), (1, 4), (0, 2), (1, 8)] := by show g_41.1 = _; exact s_41
theorem n_42 : gC g_42 = 24 ∧ gS g_42 = 106 := by unfold gC gS; rw [s_42]; exact ⟨rfl, rfl⟩
def g_43 : GG := aO g_42 (1, 8)
theorem f_43 : Fr g_43 := f_42.aO _
theorem s_43 : g_43.1 = [(1, 0), (1, 0), (0, 8), (0, 6), (3, 6), (2, 4), (0, 1), (0, 1), (0, 1), (0, 1), (0, 1), (0, 1), (0, 0), (0, 0), (0, 0), (0, 0), (0, 3), (1, 6), (1, 4), (0, 4), (1, 6), (1, 4), (0, 2), (1, 8), (1, 8)] := by show g_42.1 ++ _ = _; rw [s_42]; rfl
theorem n_43 : gC g_43 = 25 ∧ gS g_43 = 114 := by unfold gC gS; rw [s_43]; exact ⟨rfl, rfl⟩
def g_44 : GG := sR g_43 22 1 24
theorem f_44 : Fr g_44 := f_43.sR (by rw [s_43]; exact Nat.le_of_ble_eq_true rfl)
theorem s_44 : g_44.1 = [(1, 0), (1, 0), (0, 8), (0, 6), (3, 6), (2, 4), (0, 1), (0, 1), (0, 1), (0, 1), (0, 1), (0, 1), (0, 0), (0, 0), (0, 0), (0, 0), (0, 3), (1, 6), (1, 4), (0, 4), (1, 6), (1, 4), (0, 2), (1, 8), (1, 8)] := by show g_43.1 = _; exact s_43
theorem n_44 : gC g_44 = 25 ∧ gS g_44 = 114 := by unfold gC gS; rw [s_44]; exact ⟨rfl, rfl⟩
def g_45 : GG := aO g_44 (1, 8)
theorem f_45 : Fr g_45 := f_44.aO _
theorem s_45 : g_45.1 = [(1, 0), (1, 0), (0, 8), (0, 6), (3, 6), (2, 4), (0, 1), (0, 1), (0, 1), (0, 1), (0, 1), (0, 1), (0, 0), (0, 0), (0, 0), (0, 0), (0, 3), (1, 6), (1, 4), (0, 4), (1, 6), (1, 4), (0, 2), (1, 8), (1, 8), (1, 8)] := by show g_44.1 ++ _ = _; rw [s_44]; rfl
theorem n_45 : gC g_45 = 26 ∧ gS g_45 = 122 := by unfold gC gS; rw [s_45]; exact ⟨rfl, rfl⟩
def g_46 : GG := sR g_45 22 2 25
theorem f_46 : Fr g_46 := f_45.sR (by rw [s_45]; exact Nat.le_of_ble_eq_true rfl)
theorem s_46 : g_46.1 = [(1, 0), (1, 0), (0, 8), (0, 6), (3, 6), (2, 4), (0, 1), (0, 1), (0, 1), (0, 1), (0, 1), (0, 1), (0, 0), (0, 0), (0, 0), (0, 0), (0, 3), (1, 6), (1, 4), (0, 4), (1, 6), (1, 4), (0, 2), (1, 8), (1, 8), (1, 8)] := by show g_45.1 = _; exact s_45
theorem n_46 : gC g_46 = 26 ∧ gS g_46 = 122 := by unfold gC gS; rw [s_46]; exact ⟨rfl, rfl⟩
set_option maxRecDepth 4000 in
theorem C_Re_init_1 : AMet y_Re_init c_Re_init 1 none 1 3 24 [vR 22] g_40 (fun o G' => o = none ∧ G' = g_46) := by
  refine AMet.of k_Re_init (lo := [some (vR 22)]) rfl (Nat.le_of_ble_eq_true rfl) (fun X hX hR hI0 => ?_)
  have hI := hI0 rfl
  refine v_aload_n (pc := 0) hX rfl d_Re_init_0 ?_
  refine v_objInit (pc := 1) hX ml_Re_3 rfl ⟨Nat.le_of_ble_eq_true rfl, Nat.le_of_ble_eq_true rfl⟩ (by decide) d_Re_init_1 ?_
  refine v_aload_n (pc := 4) hX rfl d_Re_init_4 ?_
  refine v_bipush (pc := 5) (v := 8) hX (by decide) d_Re_init_5 ?_
  refine w_newarr (pc := 7) (r := 23) (N := 8) (G' := g_41) hX f_40 (by decide) (by decide) (by decide) (by rw [s_40]; rfl) ⟨by rw [n_40.1]; exact Nat.le_of_ble_eq_true rfl, by rw [n_40.2]; exact Nat.le_of_ble_eq_true rfl⟩ rfl d_Re_init_7 ?_
  refine w_putF (pc := 9) (G' := g_42) hX hI fl_Re_9 rfl (finF rfl rfl rfl) (by decide) (by rw [s_41]; rfl) (by decide) (fun _ => rfl) (fun _ => rfl) rfl d_Re_init_9 ?_
  refine v_aload_n (pc := 12) hX rfl d_Re_init_12 ?_
  refine v_bipush (pc := 13) (v := 8) hX (by decide) d_Re_init_13 ?_
  refine w_newarr (pc := 15) (r := 24) (N := 8) (G' := g_43) hX f_42 (by decide) (by decide) (by decide) (by rw [s_42]; rfl) ⟨by rw [n_42.1]; exact Nat.le_of_ble_eq_true rfl, by rw [n_42.2]; exact Nat.le_of_ble_eq_true rfl⟩ rfl d_Re_init_15 ?_
  refine w_putF (pc := 17) (G' := g_44) hX hI fl_Re_15 rfl (finF rfl rfl rfl) (by decide) (by rw [s_43]; rfl) (by decide) (fun _ => rfl) (fun _ => rfl) rfl d_Re_init_17 ?_
  refine v_aload_n (pc := 20) hX rfl d_Re_init_20 ?_
  refine v_bipush (pc := 21) (v := 8) hX (by decide) d_Re_init_21 ?_
  refine w_newarr (pc := 23) (r := 25) (N := 8) (G' := g_45) hX f_44 (by decide) (by decide) (by decide) (by rw [s_44]; rfl) ⟨by rw [n_44.1]; exact Nat.le_of_ble_eq_true rfl, by rw [n_44.2]; exact Nat.le_of_ble_eq_true rfl⟩ rfl d_Re_init_23 ?_
  refine w_putF (pc := 25) (G' := g_46) hX hI fl_Re_18 rfl (finF rfl rfl rfl) (by decide) (by rw [s_45]; rfl) (by decide) (fun _ => rfl) (fun _ => rfl) rfl d_Re_init_25 ?_
  exact v_vret (pc := 28) hX hR (by rw [n_46.1, n_40.1]) (by rw [n_46.2, n_40.2]) ⟨rfl, rfl⟩ d_Re_init_28
def g_47 : GG := sR g_46 2 3 22
theorem f_47 : Fr g_47 := f_46.sR (by rw [s_46]; exact Nat.le_of_ble_eq_true rfl)
theorem s_47 : g_47.1 = [(1, 0), (1, 0), (0, 8), (0, 6), (3, 6), (2, 4), (0, 1), (0, 1), (0, 1), (0, 1), (0, 1), (0, 1), (0, 0), (0, 0), (0, 0), (0, 0), (0, 3), (1, 6), (1, 4), (0, 4), (1, 6), (1, 4), (0, 2), (1, 8), (1, 8), (1, 8)] := by show g_46.1 = _; exact s_46
theorem n_47 : gC g_47 = 26 ∧ gS g_47 = 122 := by unfold gC gS; rw [s_47]; exact ⟨rfl, rfl⟩
def g_48 : GG := aO g_47 (0, 7)
theorem f_48 : Fr g_48 := f_47.aO _
theorem s_48 : g_48.1 = [(1, 0), (1, 0), (0, 8), (0, 6), (3, 6), (2, 4), (0, 1), (0, 1), (0, 1), (0, 1), (0, 1), (0, 1), (0, 0), (0, 0), (0, 0), (0, 0), (0, 3), (1, 6), (1, 4), (0, 4), (1, 6), (1, 4), (0, 2), (1, 8), (1, 8), (1, 8), (0, 7)] := by show g_47.1 ++ _ = _; rw [s_47]; rfl
theorem n_48 : gC g_48 = 27 ∧ gS g_48 = 123 := by unfold gC gS; rw [s_48]; exact ⟨rfl, rfl⟩
def g_49 : GG := sR g_48 2 4 26
theorem f_49 : Fr g_49 := f_48.sR (by rw [s_48]; exact Nat.le_of_ble_eq_true rfl)
theorem s_49 : g_49.1 = [(1, 0), (1, 0), (0, 8), (0, 6), (3, 6), (2, 4), (0, 1), (0, 1), (0, 1), (0, 1), (0, 1), (0, 1), (0, 0), (0, 0), (0, 0), (0, 0), (0, 3), (1, 6), (1, 4), (0, 4), (1, 6), (1, 4), (0, 2), (1, 8), (1, 8), (1, 8), (0, 7)] := by show g_48.1 = _; exact s_48
theorem n_49 : gC g_49 = 27 ∧ gS g_49 = 123 := by unfold gC gS; rw [s_49]; exact ⟨rfl, rfl⟩
def g_50 : GG := aO g_49 (7, 4)
theorem f_50 : Fr g_50 := f_49.aO _
theorem s_50 : g_50.1 = [(1, 0), (1, 0), (0, 8), (0, 6), (3, 6), (2, 4), (0, 1), (0, 1), (0, 1), (0, 1), (0, 1), (0, 1), (0, 0), (0, 0), (0, 0), (0, 0), (0, 3), (1, 6), (1, 4), (0, 4), (1, 6), (1, 4), (0, 2), (1, 8), (1, 8), (1, 8), (0, 7), (7, 4)] := by show g_49.1 ++ _ = _; rw [s_49]; rfl
theorem n_50 : gC g_50 = 28 ∧ gS g_50 = 127 := by unfold gC gS; rw [s_50]; exact ⟨rfl, rfl⟩
def g_51 : GG := sR g_50 2 5 27
theorem f_51 : Fr g_51 := f_50.sR (by rw [s_50]; exact Nat.le_of_ble_eq_true rfl)
theorem s_51 : g_51.1 = [(1, 0), (1, 0), (0, 8), (0, 6), (3, 6), (2, 4), (0, 1), (0, 1), (0, 1), (0, 1), (0, 1), (0, 1), (0, 0), (0, 0), (0, 0), (0, 0), (0, 3), (1, 6), (1, 4), (0, 4), (1, 6), (1, 4), (0, 2), (1, 8), (1, 8), (1, 8), (0, 7), (7, 4)] := by show g_50.1 = _; exact s_50
theorem n_51 : gC g_51 = 28 ∧ gS g_51 = 127 := by unfold gC gS; rw [s_51]; exact ⟨rfl, rfl⟩
def g_52 : GG := sI g_51 2 6 (0)
theorem f_52 : Fr g_52 := f_51.sI (by rw [s_51]; exact Nat.le_of_ble_eq_true rfl)
theorem s_52 : g_52.1 = [(1, 0), (1, 0), (0, 8), (0, 6), (3, 6), (2, 4), (0, 1), (0, 1), (0, 1), (0, 1), (0, 1), (0, 1), (0, 0), (0, 0), (0, 0), (0, 0), (0, 3), (1, 6), (1, 4), (0, 4), (1, 6), (1, 4), (0, 2), (1, 8), (1, 8), (1, 8), (0, 7), (7, 4)] := by show g_51.1 = _; exact s_51
theorem n_52 : gC g_52 = 28 ∧ gS g_52 = 127 := by unfold gC gS; rw [s_52]; exact ⟨rfl, rfl⟩
def g_53 : GG := aO g_52 (0, 5)
theorem f_53 : Fr g_53 := f_52.aO _
theorem s_53 : g_53.1 = [(1, 0), (1, 0), (0, 8), (0, 6), (3, 6), (2, 4), (0, 1), (0, 1), (0, 1), (0, 1), (0, 1), (0, 1), (0, 0), (0, 0), (0, 0), (0, 0), (0, 3), (1, 6), (1, 4), (0, 4), (1, 6), (1, 4), (0, 2), (1, 8), (1, 8), (1, 8), (0, 7), (7, 4), (0, 5)] := by show g_52.1 ++ _ = _; rw [s_52]; rfl
theorem n_53 : gC g_53 = 29 ∧ gS g_53 = 131 := by unfold gC gS; rw [s_53]; exact ⟨rfl, rfl⟩
theorem d_Sh_init_0 : decode c_Sh_init 0 = .ok (.aload_n 0, 1) := by decide +kernel
theorem d_Sh_init_1 : decode c_Sh_init 1 = .ok (.invokespecial 3, 3) := by decide +kernel
theorem d_Sh_init_4 : decode c_Sh_init 4 = .ok (.aload_n 0, 1) := by decide +kernel
theorem d_Sh_init_5 : decode c_Sh_init 5 = .ok (.bipush 60, 2) := by decide +kernel
theorem d_Sh_init_7 : decode c_Sh_init 7 = .ok (.newarray .int, 2) := by decide +kernel
theorem d_Sh_init_9 : decode c_Sh_init 9 = .ok (.putfield 9, 3) := by decide +kernel
theorem d_Sh_init_12 : decode c_Sh_init 12 = .ok (.return_, 1) := by decide +kernel
def g_54 : GG := aO g_53 (1, 60)
theorem f_54 : Fr g_54 := f_53.aO _
theorem s_54 : g_54.1 = [(1, 0), (1, 0), (0, 8), (0, 6), (3, 6), (2, 4), (0, 1), (0, 1), (0, 1), (0, 1), (0, 1), (0, 1), (0, 0), (0, 0), (0, 0), (0, 0), (0, 3), (1, 6), (1, 4), (0, 4), (1, 6), (1, 4), (0, 2), (1, 8), (1, 8), (1, 8), (0, 7), (7, 4), (0, 5), (1, 60)] := by show g_53.1 ++ _ = _; rw [s_53]; rfl
theorem n_54 : gC g_54 = 30 ∧ gS g_54 = 191 := by unfold gC gS; rw [s_54]; exact ⟨rfl, rfl⟩
def g_55 : GG := sR g_54 28 0 29
theorem f_55 : Fr g_55 := f_54.sR (by rw [s_54]; exact Nat.le_of_ble_eq_true rfl)
theorem s_55 : g_55.1 = [(1, 0), (1, 0), (0, 8), (0, 6), (3, 6), (2, 4), (0, 1), (0, 1), (0, 1), (0, 1), (0, 1), (0, 1), (0, 0), (0, 0), (0, 0), (0, 0), (0, 3), (1, 6), (1, 4), (0, 4), (1, 6), (1, 4), (0, 2), (1, 8), (1, 8), (1, 8), (0, 7), (7, 4), (0, 5), (1, 60)] := by show g_54.1 = _; exact s_54
theorem n_55 : gC g_55 = 30 ∧ gS g_55 = 191 := by unfold gC gS; rw [s_55]; exact ⟨rfl, rfl⟩
set_option maxRecDepth 4000 in
theorem C_Sh_init_1 : AMet y_Sh_init c_Sh_init 1 none 1 1 60 [vR 28] g_53 (fun o G' => o = none ∧ G' = g_55) := by
  refine AMet.of k_Sh_init (lo := [some (vR 28)]) rfl (Nat.le_of_ble_eq_true rfl) (fun X hX hR hI0 => ?_)
  have hI := hI0 rfl
  refine v_aload_n (pc := 0) hX rfl d_Sh_init_0 ?_
  refine v_objInit (pc := 1) hX ml_Sh_3 rfl ⟨Nat.le_of_ble_eq_true rfl, Nat.le_of_ble_eq_true rfl⟩ (by decide) d_Sh_init_1 ?_
  refine v_aload_n (pc := 4) hX rfl d_Sh_init_4 ?_
  refine v_bipush (pc := 5) (v := 60) hX (by decide) d_Sh_init_5 ?_
  refine w_newarr (pc := 7) (r := 29) (N := 60) (G' := g_54) hX f_53 (by decide) (by decide) (by decide) (by rw [s_53]; rfl) ⟨by rw [n_53.1]; exact Nat.le_of_ble_eq_true rfl, by rw [n_53.2]; exact Nat.le_of_ble_eq_true rfl⟩ rfl d_Sh_init_7 ?_
  refine w_putF (pc := 9) (G' := g_55) hX hI fl_Sh_9 rfl (finF rfl rfl rfl) (by decide) (by rw [s_54]; rfl) (by decide) (fun _ => rfl) (fun _ => rfl) rfl d_Sh_init_9 ?_
  exact v_vret (pc := 12) hX hR (by rw [n_55.1, n_53.1]) (by rw [n_55.2, n_53.2]) ⟨rfl, rfl⟩ d_Sh_init_12
def g_56 : GG := sR g_55 27 0 28
theorem f_56 : Fr g_56 := f_55.sR (by rw [s_55]; exact Nat.le_of_ble_eq_true rfl)
theorem s_56 : g_56.1 = [(1, 0), (1, 0), (0, 8), (0, 6), (3, 6), (2, 4), (0, 1), (0, 1), (0, 1), (0, 1), (0, 1), (0, 1), (0, 0), (0, 0), (0, 0), (0, 0), (0, 3), (1, 6), (1, 4), (0, 4), (1, 6), (1, 4), (0, 2), (1, 8), (1, 8), (1, 8), (0, 7), (7, 4), (0, 5), (1, 60)] := by show g_55.1 = _; exact s_55
theorem n_56 : gC g_56 = 30 ∧ gS g_56 = 191 := by unfold gC gS; rw [s_56]; exact ⟨rfl, rfl⟩
def g_57 : GG := aO g_56 (0, 5)
theorem f_57 : Fr g_57 := f_56.aO _
theorem s_57 : g_57.1 = [(1, 0), (1, 0), (0, 8), (0, 6), (3, 6), (2, 4), (0, 1), (0, 1), (0, 1), (0, 1), (0, 1), (0, 1), (0, 0), (0, 0), (0, 0), (0, 0), (0, 3), (1, 6), (1, 4), (0, 4), (1, 6), (1, 4), (0, 2), (1, 8), (1, 8), (1, 8), (0, 7), (7, 4), (0, 5), (1, 60), (0, 5)] := by show g_56.1 ++ _ = _; rw [s_56]; rfl
theorem n_57 : gC g_57 = 31 ∧ gS g_57 = 195 := by unfold gC gS; rw [s_57]; exact ⟨rfl, rfl⟩
def g_58 : GG := aO g_57 (1, 60)
theorem f_58 : Fr g_58 := f_57.aO _
theorem s_58 : g_58.1 = [(1, 0), (1, 0), (0, 8), (0, 6), (3, 6), (2, 4), (0, 1), (0, 1), (0, 1), (0, 1), (0, 1), (0, 1), (0, 0), (0, 0), (0, 0), (0, 0), (0, 3), (1, 6), (1, 4), (0, 4), (1, 6), (1, 4), (0, 2), (1, 8), (1, 8), (1, 8), (0, 7), (7, 4), (0, 5), (1, 60), (0, 5), (1, 60)] := by show g_57.1 ++ _ = _; rw [s_57]; rfl
theorem n_58 : gC g_58 = 32 ∧ gS g_58 = 255 := by unfold gC gS; rw [s_58]; exact ⟨rfl, rfl⟩
def g_59 : GG := sR g_58 30 0 31
theorem f_59 : Fr g_59 := f_58.sR (by rw [s_58]; exact Nat.le_of_ble_eq_true rfl)
theorem s_59 : g_59.1 = [(1, 0), (1, 0), (0, 8), (0, 6), (3, 6), (2, 4), (0, 1), (0, 1), (0, 1), (0, 1), (0, 1), (0, 1), (0, 0), (0, 0), (0, 0), (0, 0), (0, 3), (1, 6), (1, 4), (0, 4), (1, 6), (1, 4), (0, 2), (1, 8), (1, 8), (1, 8), (0, 7), (7, 4), (0, 5), (1, 60), (0, 5), (1, 60)] := by show g_58.1 = _; exact s_58
theorem n_59 : gC g_59 = 32 ∧ gS g_59 = 255 := by unfold gC gS; rw [s_59]; exact ⟨rfl, rfl⟩
set_option maxRecDepth 4000 in
theorem C_Sh_init_2 : AMet y_Sh_init c_Sh_init 1 none 1 1 60 [vR 30] g_57 (fun o G' => o = none ∧ G' = g_59) := by
  refine AMet.of k_Sh_init (lo := [some (vR 30)]) rfl (Nat.le_of_ble_eq_true rfl) (fun X hX hR hI0 => ?_)
  have hI := hI0 rfl
  refine v_aload_n (pc := 0) hX rfl d_Sh_init_0 ?_
  refine v_objInit (pc := 1) hX ml_Sh_3 rfl ⟨Nat.le_of_ble_eq_true rfl, Nat.le_of_ble_eq_true rfl⟩ (by decide) d_Sh_init_1 ?_
  refine v_aload_n (pc := 4) hX rfl d_Sh_init_4 ?_
  refine v_bipush (pc := 5) (v := 60) hX (by decide) d_Sh_init_5 ?_
  refine w_newarr (pc := 7) (r := 31) (N := 60) (G' := g_58) hX f_57 (by decide) (by decide) (by decide) (by rw [s_57]; rfl) ⟨by rw [n_57.1]; exact Nat.le_of_ble_eq_true rfl, by rw [n_57.2]; exact Nat.le_of_ble_eq_true rfl⟩ rfl d_Sh_init_7 ?_
  refine w_putF (pc := 9) (G' := g_59) hX hI fl_Sh_9 rfl (finF rfl rfl rfl) (by decide) (by rw [s_58]; rfl) (by decide) (fun _ => rfl) (fun _ => rfl) rfl d_Sh_init_9 ?_
  exact v_vret (pc := 12) hX hR (by rw [n_59.1, n_57.1]) (by rw [n_59.2, n_57.2]) ⟨rfl, rfl⟩ d_Sh_init_12
def g_60 : GG := sR g_59 27 1 30
theorem f_60 : Fr g_60 := f_59.sR (by rw [s_59]; exact Nat.le_of_ble_eq_true rfl)
theorem s_60 : g_60.1 = [(1, 0), (1, 0), (0, 8), (0, 6), (3, 6), (2, 4), (0, 1), (0, 1), (0, 1), (0, 1), (0, 1), (0, 1), (0, 0), (0, 0), (0, 0), (0, 0), (0, 3), (1, 6), (1, 4), (0, 4), (1, 6), (1, 4), (0, 2), (1, 8), (1, 8), (1, 8), (0, 7), (7, 4), (0, 5), (1, 60), (0, 5), (1, 60)] := by show g_59.1 = _; exact s_59
theorem n_60 : gC g_60 = 32 ∧ gS g_60 = 255 := by unfold gC gS; rw [s_60]; exact ⟨rfl, rfl⟩
def g_61 : GG := aO g_60 (0, 5)
theorem f_61 : Fr g_61 := f_60.aO _
theorem s_61 : g_61.1 = [(1, 0), (1, 0), (0, 8), (0, 6), (3, 6), (2, 4), (0, 1), (0, 1), (0, 1), (0, 1), (0, 1), (0, 1), (0, 0), (0, 0), (0, 0), (0, 0), (0, 3), (1, 6), (1, 4), (0, 4), (1, 6), (1, 4), (0, 2), (1, 8), (1, 8), (1, 8), (0, 7), (7, 4), (0, 5), (1, 60), (0, 5), (1, 60), (0, 5)] := by show g_60.1 ++ _ = _; rw [s_60]; rfl
theorem n_61 : gC g_61 = 33 ∧ gS g_61 = 259 := by unfold gC gS; rw [s_61]; exact ⟨rfl, rfl⟩
def g_62 : GG := aO g_61 (1, 60)
theorem f_62 : Fr g_62 := f_61.aO _
theorem s_62 : g_62.1 = [(1, 0), (1, 0), (0, 8), (0, 6), (3, 6), (2, 4), (0, 1), (0, 1), (0, 1), (0, 1), (0, 1), (0, 1), (0, 0), (0, 0), (0, 0), (0, 0), (0, 3), (1, 6), (1, 4), (0, 4), (1, 6), (1, 4), (0, 2), (1, 8), (1, 8), (1, 8), (0, 7), (7, 4), (0, 5), (1, 60), (0, 5), (1, 60), (0, 5), (1, 60)] := by show g_61.1 ++ _ = _; rw [s_61]; rfl
theorem n_62 : gC g_62 = 34 ∧ gS g_62 = 319 := by unfold gC gS; rw [s_62]; exact ⟨rfl, rfl⟩
def g_63 : GG := sR g_62 32 0 33
theorem f_63 : Fr g_63 := f_62.sR (by rw [s_62]; exact Nat.le_of_ble_eq_true rfl)
theorem s_63 : g_63.1 = [(1, 0), (1, 0), (0, 8), (0, 6), (3, 6), (2, 4), (0, 1), (0, 1), (0, 1), (0, 1), (0, 1), (0, 1), (0, 0), (0, 0), (0, 0), (0, 0), (0, 3), (1, 6), (1, 4), (0, 4), (1, 6), (1, 4), (0, 2), (1, 8), (1, 8), (1, 8), (0, 7), (7, 4), (0, 5), (1, 60), (0, 5), (1, 60), (0, 5), (1, 60)] := by show g_62.1 = _; exact s_62
theorem n_63 : gC g_63 = 34 ∧ gS g_63 = 319 := by unfold gC gS; rw [s_63]; exact ⟨rfl, rfl⟩
set_option maxRecDepth 4000 in
theorem C_Sh_init_3 : AMet y_Sh_init c_Sh_init 1 none 1 1 60 [vR 32] g_61 (fun o G' => o = none ∧ G' = g_63) := by
  refine AMet.of k_Sh_init (lo := [some (vR 32)]) rfl (Nat.le_of_ble_eq_true rfl) (fun X hX hR hI0 => ?_)
  have hI := hI0 rfl
  refine v_aload_n (pc := 0) hX rfl d_Sh_init_0 ?_
  refine v_objInit (pc := 1) hX ml_Sh_3 rfl ⟨Nat.le_of_ble_eq_true rfl, Nat.le_of_ble_eq_true rfl⟩ (by decide) d_Sh_init_1 ?_
  refine v_aload_n (pc := 4) hX rfl d_Sh_init_4 ?_
  refine v_bipush (pc := 5) (v := 60) hX (by decide) d_Sh_init_5 ?_
  refine w_newarr (pc := 7) (r := 33) (N := 60) (G' := g_62) hX f_61 (by decide) (by decide) (by decide) (by rw [s_61]; rfl) ⟨by rw [n_61.1]; exact Nat.le_of_ble_eq_true rfl, by rw [n_61.2]; exact Nat.le_of_ble_eq_true rfl⟩ rfl d_Sh_init_7 ?_
  refine w_putF (pc := 9) (G' := g_63) hX hI fl_Sh_9 rfl (finF rfl rfl rfl) (by decide) (by rw [s_62]; rfl) (by decide) (fun _ => rfl) (fun _ => rfl) rfl d_Sh_init_9 ?_
  exact v_vret (pc := 12) hX hR (by rw [n_63.1, n_61.1]) (by rw [n_63.2, n_61.2]) ⟨rfl, rfl⟩ d_Sh_init_12
def g_64 : GG := sR g_63 27 2 32
theorem f_64 : Fr g_64 := f_63.sR (by rw [s_63]; exact Nat.le_of_ble_eq_true rfl)
theorem s_64 : g_64.1 = [(1, 0), (1, 0), (0, 8), (0, 6), (3, 6), (2, 4), (0, 1), (0, 1), (0, 1), (0, 1), (0, 1), (0, 1), (0, 0), (0, 0), (0, 0), (0, 0), (0, 3), (1, 6), (1, 4), (0, 4), (1, 6), (1, 4), (0, 2), (1, 8), (1, 8), (1, 8), (0, 7), (7, 4), (0, 5), (1, 60), (0, 5), (1, 60), (0, 5), (1, 60)] := by show g_63.1 = _; exact s_63
theorem n_64 : gC g_64 = 34 ∧ gS g_64 = 319 := by unfold gC gS; rw [s_64]; exact ⟨rfl, rfl⟩
def g_65 : GG := aO g_64 (0, 5)
theorem f_65 : Fr g_65 := f_64.aO _
theorem s_65 : g_65.1 = [(1, 0), (1, 0), (0, 8), (0, 6), (3, 6), (2, 4), (0, 1), (0, 1), (0, 1), (0, 1), (0, 1), (0, 1), (0, 0), (0, 0), (0, 0), (0, 0), (0, 3), (1, 6), (1, 4), (0, 4), (1, 6), (1, 4), (0, 2), (1, 8), (1, 8), (1, 8), (0, 7), (7, 4), (0, 5), (1, 60), (0, 5), (1, 60), (0, 5), (1, 60), (0, 5)] := by show g_64.1 ++ _ = _; rw [s_64]; rfl
theorem n_65 : gC g_65 = 35 ∧ gS g_65 = 323 := by unfold gC gS; rw [s_65]; exact ⟨rfl, rfl⟩
def g_66 : GG := aO g_65 (1, 60)
theorem f_66 : Fr g_66 := f_65.aO _
theorem s_66 : g_66.1 = [(1, 0), (1, 0), (0, 8), (0, 6), (3, 6), (2, 4), (0, 1), (0, 1), (0, 1), (0, 1), (0, 1), (0, 1), (0, 0), (0, 0), (0, 0), (0, 0), (0, 3), (1, 6), (1, 4), (0, 4), (1, 6), (1, 4), (0, 2), (1, 8), (1, 8), (1, 8), (0, 7), (7, 4), (0, 5), (1, 60), (0, 5), (1, 60), (0, 5), (1, 60), (0, 5), (1, 60)] := by show g_65.1 ++ _ = _; rw [s_65]; rfl
theorem n_66 : gC g_66 = 36 ∧ gS g_66 = 383 := by unfold gC gS; rw [s_66]; exact ⟨rfl, rfl⟩
def g_67 : GG := sR g_66 34 0 35
theorem f_67 : Fr g_67 := f_66.sR (by rw [s_66]; exact Nat.le_of_ble_eq_true rfl)
theorem s_67 : g_67.1 = [(1, 0), (1, 0), (0, 8), (0, 6), (3, 6), (2, 4), (0, 1), (0, 1), (0, 1), (0, 1), (0, 1), (0, 1), (0, 0), (0, 0), (0, 0), (0, 0), (0, 3), (1, 6), (1, 4), (0, 4), (1, 6), (1, 4), (0, 2), (1, 8), (1, 8), (1, 8), (0, 7), (7, 4), (0, 5), (1, 60), (0, 5), (1, 60), (0, 5), (1, 60), (0, 5), (1, 60)] := by show g_66.1 = _; exact s_66
theorem n_67 : gC g_67 = 36 ∧ gS g_67 = 383 := by unfold gC gS; rw [s_67]; exact ⟨rfl, rfl⟩
set_option maxRecDepth 4000 in
theorem C_Sh_init_4 : AMet y_Sh_init c_Sh_init 1 none 1 1 60 [vR 34] g_65 (fun o G' => o = none ∧ G' = g_67) := by
  refine AMet.of k_Sh_init (lo := [some (vR 34)]) rfl (Nat.le_of_ble_eq_true rfl) (fun X hX hR hI0 => ?_)
  have hI := hI0 rfl
  refine v_aload_n (pc := 0) hX rfl d_Sh_init_0 ?_
  refine v_objInit (pc := 1) hX ml_Sh_3 rfl ⟨Nat.le_of_ble_eq_true rfl, Nat.le_of_ble_eq_true rfl⟩ (by decide) d_Sh_init_1 ?_
  refine v_aload_n (pc := 4) hX rfl d_Sh_init_4 ?_
  refine v_bipush (pc := 5) (v := 60) hX (by decide) d_Sh_init_5 ?_
  refine w_newarr (pc := 7) (r := 35) (N := 60) (G' := g_66) hX f_65 (by decide) (by decide) (by decide) (by rw [s_65]; rfl) ⟨by rw [n_65.1]; exact Nat.le_of_ble_eq_true rfl, by rw [n_65.2]; exact Nat.le_of_ble_eq_true rfl⟩ rfl d_Sh_init_7 ?_
  refine w_putF (pc := 9) (G' := g_67) hX hI fl_Sh_9 rfl (finF rfl rfl rfl) (by decide) (by rw [s_66]; rfl) (by decide) (fun _ => rfl) (fun _ => rfl) rfl d_Sh_init_9 ?_
  exact v_vret (pc := 12) hX hR (by rw [n_67.1, n_65.1]) (by rw [n_67.2, n_65.2]) ⟨rfl, rfl⟩ d_Sh_init_12
def g_68 : GG := sR g_67 27 3 34
theorem f_68 : Fr g_68 := f_67.sR (by rw [s_67]; exact Nat.le_of_ble_eq_true rfl)
theorem s_68 : g_68.1 = [(1, 0), (1, 0), (0, 8), (0, 6), (3, 6), (2, 4), (0, 1), (0, 1), (0, 1), (0, 1), (0, 1), (0, 1), (0, 0), (0, 0), (0, 0), (0, 0), (0, 3), (1, 6), (1, 4), (0, 4), (1, 6), (1, 4), (0, 2), (1, 8), (1, 8), (1, 8), (0, 7), (7, 4), (0, 5), (1, 60), (0, 5), (1, 60), (0, 5), (1, 60), (0, 5), (1, 60)] := by show g_67.1 = _; exact s_67
theorem n_68 : gC g_68 = 36 ∧ gS g_68 = 383 := by unfold gC gS; rw [s_68]; exact ⟨rfl, rfl⟩
set_option maxRecDepth 4000 in
theorem C_LJ_init_1 : AMet y_LJ_init c_LJ_init 2 none 3 33 376 [vR 2] g_1 (fun o G' => o = none ∧ G' = g_68) := by
  refine AMet.of k_LJ_init (lo := [some (vR 2), none]) rfl (Nat.le_of_ble_eq_true rfl) (fun X hX hR hI0 => ?_)
  have hI := hI0 rfl
  refine v_aload_n (pc := 0) hX rfl d_LJ_init_0 ?_
  refine v_objInit (pc := 1) hX ml_LJ_3 rfl ⟨Nat.le_of_ble_eq_true rfl, Nat.le_of_ble_eq_true rfl⟩ (by decide) d_LJ_init_1 ?_
  refine v_aload_n (pc := 4) hX rfl d_LJ_init_4 ?_
  refine w_new (pc := 5) (r := 3) (G' := g_2) hX f_1 cl_LJ_9 io_Sp ii_Sp rfl (by rw [s_1]; rfl) ⟨by rw [n_1.1]; exact Nat.le_of_ble_eq_true rfl, by rw [n_1.2]; exact Nat.le_of_ble_eq_true rfl⟩ rfl d_LJ_init_5 ?_
  refine v_dup (pc := 8) hX rfl d_LJ_init_8 ?_
  refine v_callI (pc := 9) (as := []) hX k_Sp_init rfl ki_Sp_init ml_LJ_11 C_Sp_init_1 (by decide) rfl rfl rfl ⟨Nat.le_of_ble_eq_true rfl, Nat.le_of_ble_eq_true rfl, Nat.le_of_ble_eq_true rfl, by rw [n_2.1]; exact Nat.le_of_ble_eq_true rfl, by rw [n_2.2]; exact Nat.le_of_ble_eq_true rfl⟩ (fun r G' h => by rw [h.2, n_26.1, n_26.2, n_2.1, n_2.2]; exact ⟨rfl, rfl⟩) d_LJ_init_9 (fun r G' h => ?_)
  obtain ⟨rfl, rfl⟩ := h
  refine VW.cast (lo' := [some (vR 2), none]) (st' := [vR 3, vR 2]) (G' := g_26) rfl rfl rfl ?_
  refine w_putF (pc := 12) (G' := g_27) hX hI fl_LJ_12 rfl (finF rfl rfl rfl) (by decide) (by rw [s_26]; rfl) (by decide) (fun _ => rfl) (fun _ => rfl) rfl d_LJ_init_12 ?_
  refine v_aload_n (pc := 15) hX rfl d_LJ_init_15 ?_
  refine w_new (pc := 16) (r := 16) (G' := g_28) hX f_27 cl_LJ_18 io_Sa ii_Sa rfl (by rw [s_27]; rfl) ⟨by rw [n_27.1]; exact Nat.le_of_ble_eq_true rfl, by rw [n_27.2]; exact Nat.le_of_ble_eq_true rfl⟩ rfl d_LJ_init_16 ?_
  refine v_dup (pc := 19) hX rfl d_LJ_init_19 ?_
  refine v_callI (pc := 20) (as := []) hX k_Sa_init rfl ki_Sa_init ml_LJ_20 C_Sa_init_1 (by decide) rfl rfl rfl ⟨Nat.le_of_ble_eq_true rfl, Nat.le_of_ble_eq_true rfl, Nat.le_of_ble_eq_true rfl, by rw [n_28.1]; exact Nat.le_of_ble_eq_true rfl, by rw [n_28.2]; exact Nat.le_of_ble_eq_true rfl⟩ (fun r G' h => by rw [h.2, n_32.1, n_32.2, n_28.1, n_28.2]; exact ⟨rfl, rfl⟩) d_LJ_init_20 (fun r G' h => ?_)
  obtain ⟨rfl, rfl⟩ := h
  refine VW.cast (lo' := [some (vR 2), none]) (st' := [vR 16, vR 2]) (G' := g_32) rfl rfl rfl ?_
  refine w_putF (pc := 23) (G' := g_33) hX hI fl_LJ_21 rfl (finF rfl rfl rfl) (by decide) (by rw [s_32]; rfl) (by decide) (fun _ => rfl) (fun _ => rfl) rfl d_LJ_init_23 ?_
  refine v_aload_n (pc := 26) hX rfl d_LJ_init_26 ?_
  refine w_new (pc := 27) (r := 19) (G' := g_34) hX f_33 cl_LJ_25 io_Se ii_Se rfl (by rw [s_33]; rfl) ⟨by rw [n_33.1]; exact Nat.le_of_ble_eq_true rfl, by rw [n_33.2]; exact Nat.le_of_ble_eq_true rfl⟩ rfl d_LJ_init_27 ?_
  refine v_dup (pc := 30) hX rfl d_LJ_init_30 ?_
  refine v_callI (pc := 31) (as := []) hX k_Se_init rfl ki_Se_init ml_LJ_27 C_Se_init_1 (by decide) rfl rfl rfl ⟨Nat.le_of_ble_eq_true rfl, Nat.le_of_ble_eq_true rfl, Nat.le_of_ble_eq_true rfl, by rw [n_34.1]; exact Nat.le_of_ble_eq_true rfl, by rw [n_34.2]; exact Nat.le_of_ble_eq_true rfl⟩ (fun r G' h => by rw [h.2, n_38.1, n_38.2, n_34.1, n_34.2]; exact ⟨rfl, rfl⟩) d_LJ_init_31 (fun r G' h => ?_)
  obtain ⟨rfl, rfl⟩ := h
  refine VW.cast (lo' := [some (vR 2), none]) (st' := [vR 19, vR 2]) (G' := g_38) rfl rfl rfl ?_
  refine w_putF (pc := 34) (G' := g_39) hX hI fl_LJ_28 rfl (finF rfl rfl rfl) (by decide) (by rw [s_38]; rfl) (by decide) (fun _ => rfl) (fun _ => rfl) rfl d_LJ_init_34 ?_
  refine v_aload_n (pc := 37) hX rfl d_LJ_init_37 ?_
  refine w_new (pc := 38) (r := 22) (G' := g_40) hX f_39 cl_LJ_32 io_Re ii_Re rfl (by rw [s_39]; rfl) ⟨by rw [n_39.1]; exact Nat.le_of_ble_eq_true rfl, by rw [n_39.2]; exact Nat.le_of_ble_eq_true rfl⟩ rfl d_LJ_init_38 ?_
  refine v_dup (pc := 41) hX rfl d_LJ_init_41 ?_
  refine v_callI (pc := 42) (as := []) hX k_Re_init rfl ki_Re_init ml_LJ_34 C_Re_init_1 (by decide) rfl rfl rfl ⟨Nat.le_of_ble_eq_true rfl, Nat.le_of_ble_eq_true rfl, Nat.le_of_ble_eq_true rfl, by rw [n_40.1]; exact Nat.le_of_ble_eq_true rfl, by rw [n_40.2]; exact Nat.le_of_ble_eq_true rfl⟩ (fun r G' h => by rw [h.2, n_46.1, n_46.2, n_40.1, n_40.2]; exact ⟨rfl, rfl⟩) d_LJ_init_42 (fun r G' h => ?_)
  obtain ⟨rfl, rfl⟩ := h
  refine VW.cast (lo' := [some (vR 2), none]) (st' := [vR 22, vR 2]) (G' := g_46) rfl rfl rfl ?_
  refine w_putF (pc := 45) (G' := g_47) hX hI fl_LJ_35 rfl (finF rfl rfl rfl) (by decide) (by rw [s_46]; rfl) (by decide) (fun _ => rfl) (fun _ => rfl) rfl d_LJ_init_45 ?_
  refine v_aload_n (pc := 48) hX rfl d_LJ_init_48 ?_
  refine w_new (pc := 49) (r := 26) (G' := g_48) hX f_47 cl_LJ_39 io_Te ii_Te rfl (by rw [s_47]; rfl) ⟨by rw [n_47.1]; exact Nat.le_of_ble_eq_true rfl, by rw [n_47.2]; exact Nat.le_of_ble_eq_true rfl⟩ rfl d_LJ_init_49 ?_
  refine v_dup (pc := 52) hX rfl d_LJ_init_52 ?_
  refine v_callI (pc := 53) (as := []) hX k_Te_init rfl ki_Te_init ml_LJ_41 (C_Te_init (by decide)) (by decide) rfl rfl rfl ⟨Nat.le_of_ble_eq_true rfl, Nat.le_of_ble_eq_true rfl, Nat.le_of_ble_eq_true rfl, by rw [n_48.1]; exact Nat.le_of_ble_eq_true rfl, by rw [n_48.2]; exact Nat.le_of_ble_eq_true rfl⟩ (fun r G' h => by rw [h.2]; exact ⟨rfl, rfl⟩) d_LJ_init_53 (fun r G' h => ?_)
  obtain ⟨rfl, rfl⟩ := h
  refine VW.cast (lo' := [some (vR 2), none]) (st' := [vR 26, vR 2]) (G' := g_48) rfl rfl rfl ?_
  refine w_putF (pc := 56) (G' := g_49) hX hI fl_LJ_42 rfl (finF rfl rfl rfl) (by decide) (by rw [s_48]; rfl) (by decide) (fun _ => rfl) (fun _ => rfl) rfl d_LJ_init_56 ?_
  refine v_aload_n (pc := 59) hX rfl d_LJ_init_59 ?_
  refine v_iconst (pc := 60) (v := 4) hX (by decide) d_LJ_init_60 ?_
  refine w_anew (pc := 61) (r := 27) (c := 5) (N := 4) (G' := g_50) hX f_49 (by decide) rfl cl_LJ_46 (by decide) (by decide) (by decide) (by rw [s_49]; rfl) ⟨by rw [n_49.1]; exact Nat.le_of_ble_eq_true rfl, by rw [n_49.2]; exact Nat.le_of_ble_eq_true rfl⟩ rfl d_LJ_init_61 ?_
  refine w_putF (pc := 64) (G' := g_51) hX hI fl_LJ_48 rfl (finF rfl rfl rfl) (by decide) (by rw [s_50]; rfl) (by decide) (fun _ => rfl) (fun _ => rfl) rfl d_LJ_init_64 ?_
  refine v_aload_n (pc := 67) hX rfl d_LJ_init_67 ?_
  refine v_iconst (pc := 68) (v := 0) hX (by decide) d_LJ_init_68 ?_
  refine w_putI (pc := 69) (G' := g_52) hX fl_LJ_52 rfl (finI rfl rfl) (by decide) (by rw [s_51]; rfl) rfl rfl rfl d_LJ_init_69 ?_
  refine v_iconst (pc := 72) (v := 0) hX (by decide) d_LJ_init_72 ?_
  refine v_istore_n (pc := 73) (lo' := [some (vR 2), some (vI (0))]) hX (by decide) rfl d_LJ_init_73 ?_
  refine v_iload_n (pc := 74) hX rfl d_LJ_init_74 ?_
  refine v_iconst (pc := 75) (v := 4) hX (by decide) d_LJ_init_75 ?_
  refine v_icmp_ge (pc := 76) (tgt := 98) hX d_LJ_init_76 rfl (fun hc => absurd hc (by decide)) (fun _ => ?_)
  refine v_aload_n (pc := 79) hX rfl d_LJ_init_79 ?_
  refine w_getR (pc := 80) (v := 27) hX fl_LJ_48 rfl (by decide) (by rw [s_52]; rfl) rfl d_LJ_init_80 ?_
  refine v_iload_n (pc := 83) hX rfl d_LJ_init_83 ?_
  refine w_new (pc := 84) (r := 28) (G' := g_53) hX f_52 cl_LJ_46 io_Sh ii_Sh rfl (by rw [s_52]; rfl) ⟨by rw [n_52.1]; exact Nat.le_of_ble_eq_true rfl, by rw [n_52.2]; exact Nat.le_of_ble_eq_true rfl⟩ rfl d_LJ_init_84 ?_
  refine v_dup (pc := 87) hX rfl d_LJ_init_87 ?_
  refine v_callI (pc := 88) (as := []) hX k_Sh_init rfl ki_Sh_init ml_LJ_56 C_Sh_init_1 (by decide) rfl rfl rfl ⟨Nat.le_of_ble_eq_true rfl, Nat.le_of_ble_eq_true rfl, Nat.le_of_ble_eq_true rfl, by rw [n_53.1]; exact Nat.le_of_ble_eq_true rfl, by rw [n_53.2]; exact Nat.le_of_ble_eq_true rfl⟩ (fun r G' h => by rw [h.2, n_55.1, n_55.2, n_53.1, n_53.2]; exact ⟨rfl, rfl⟩) d_LJ_init_88 (fun r G' h => ?_)
  obtain ⟨rfl, rfl⟩ := h
  refine VW.cast (lo' := [some (vR 2), some (vI (0))]) (st' := [vR 28, vI (0), vR 27]) (G' := g_55) rfl rfl rfl ?_
  refine w_aast (pc := 91) (c := 5) (n := 4) (j := 0) (G' := g_56) hX (by decide) (by decide) (by rw [s_55]; rfl) (by decide) (by rw [s_55]; rfl) (by unfold vp_in; decide) (by decide) rfl d_LJ_init_91 ?_
  refine v_iinc (pc := 92) (lo' := [some (vR 2), some (vI (1))]) hX rfl rfl d_LJ_init_92 ?_
  refine v_goto (pc := 95) (tgt := 74) hX d_LJ_init_95 rfl ?_
  refine v_iload_n (pc := 74) hX rfl d_LJ_init_74 ?_
  refine v_iconst (pc := 75) (v := 4) hX (by decide) d_LJ_init_75 ?_
  refine v_icmp_ge (pc := 76) (tgt := 98) hX d_LJ_init_76 rfl (fun hc => absurd hc (by decide)) (fun _ => ?_)
  refine v_aload_n (pc := 79) hX rfl d_LJ_init_79 ?_
  refine w_getR (pc := 80) (v := 27) hX fl_LJ_48 rfl (by decide) (by rw [s_56]; rfl) rfl d_LJ_init_80 ?_
  refine v_iload_n (pc := 83) hX rfl d_LJ_init_83 ?_
  refine w_new (pc := 84) (r := 30) (G' := g_57) hX f_56 cl_LJ_46 io_Sh ii_Sh rfl (by rw [s_56]; rfl) ⟨by rw [n_56.1]; exact Nat.le_of_ble_eq_true rfl, by rw [n_56.2]; exact Nat.le_of_ble_eq_true rfl⟩ rfl d_LJ_init_84 ?_
  refine v_dup (pc := 87) hX rfl d_LJ_init_87 ?_
  refine v_callI (pc := 88) (as := []) hX k_Sh_init rfl ki_Sh_init ml_LJ_56 C_Sh_init_2 (by decide) rfl rfl rfl ⟨Nat.le_of_ble_eq_true rfl, Nat.le_of_ble_eq_true rfl, Nat.le_of_ble_eq_true rfl, by rw [n_57.1]; exact Nat.le_of_ble_eq_true rfl, by rw [n_57.2]; exact Nat.le_of_ble_eq_true rfl⟩ (fun r G' h => by rw [h.2, n_59.1, n_59.2, n_57.1, n_57.2]; exact ⟨rfl, rfl⟩) d_LJ_init_88 (fun r G' h => ?_)
  obtain ⟨rfl, rfl⟩ := h
  refine VW.cast (lo' := [some (vR 2), some (vI (1))]) (st' := [vR 30, vI (1), vR 27]) (G' := g_59) rfl rfl rfl ?_
  refine w_aast (pc := 91) (c := 5) (n := 4) (j := 1) (G' := g_60) hX (by decide) (by decide) (by rw [s_59]; rfl) (by decide) (by rw [s_59]; rfl) (by unfold vp_in; decide) (by decide) rfl d_LJ_init_91 ?_
  refine v_iinc (pc := 92) (lo' := [some (vR 2), some (vI (2))]) hX rfl rfl d_LJ_init_92 ?_
  refine v_goto (pc := 95) (tgt := 74) hX d_LJ_init_95 rfl ?_
  refine v_iload_n (pc := 74) hX rfl d_LJ_init_74 ?_
  refine v_iconst (pc := 75) (v := 4) hX (by decide) d_LJ_init_75 ?_
  refine v_icmp_ge (pc := 76) (tgt := 98) hX d_LJ_init_76 rfl (fun hc => absurd hc (by decide)) (fun _ => ?_)
  refine v_aload_n (pc := 79) hX rfl d_LJ_init_79 ?_
  refine w_getR (pc := 80) (v := 27) hX fl_LJ_48 rfl (by decide) (by rw [s_60]; rfl) rfl d_LJ_init_80 ?_
  refine v_iload_n (pc := 83) hX rfl d_LJ_init_83 ?_
  refine w_new (pc := 84) (r := 32) (G' := g_61) hX f_60 cl_LJ_46 io_Sh ii_Sh rfl (by rw [s_60]; rfl) ⟨by rw [n_60.1]; exact Nat.le_of_ble_eq_true rfl, by rw [n_60.2]; exact Nat.le_of_ble_eq_true rfl⟩ rfl d_LJ_init_84 ?_
  refine v_dup (pc := 87) hX rfl d_LJ_init_87 ?_
  refine v_callI (pc := 88) (as := []) hX k_Sh_init rfl ki_Sh_init ml_LJ_56 C_Sh_init_3 (by decide) rfl rfl rfl ⟨Nat.le_of_ble_eq_true rfl, Nat.le_of_ble_eq_true rfl, Nat.le_of_ble_eq_true rfl, by rw [n_61.1]; exact Nat.le_of_ble_eq_true rfl, by rw [n_61.2]; exact Nat.le_of_ble_eq_true rfl⟩ (fun r G' h => by rw [h.2, n_63.1, n_63.2, n_61.1, n_61.2]; exact ⟨rfl, rfl⟩) d_LJ_init_88 (fun r G' h => ?_)
  obtain ⟨rfl, rfl⟩ := h
  refine VW.cast (lo' := [some (vR 2), some (vI (2))]) (st' := [vR 32, vI (2), vR 27]) (G' := g_63) rfl rfl rfl ?_
  refine w_aast (pc := 91) (c := 5) (n := 4) (j := 2) (G' := g_64) hX (by decide) (by decide) (by rw [s_63]; rfl) (by decide) (by rw [s_63]; rfl) (by unfold vp_in; decide) (by decide) rfl d_LJ_init_91 ?_
  refine v_iinc (pc := 92) (lo' := [some (vR 2), some (vI (3))]) hX rfl rfl d_LJ_init_92 ?_
  refine v_goto (pc := 95) (tgt := 74) hX d_LJ_init_95 rfl ?_
  refine v_iload_n (pc := 74) hX rfl d_LJ_init_74 ?_
  refine v_iconst (pc := 75) (v := 4) hX (by decide) d_LJ_init_75 ?_
  refine v_icmp_ge (pc := 76) (tgt := 98) hX d_LJ_init_76 rfl (fun hc => absurd hc (by decide)) (fun _ => ?_)
  refine v_aload_n (pc := 79) hX rfl d_LJ_init_79 ?_
  refine w_getR (pc := 80) (v := 27) hX fl_LJ_48 rfl (by decide) (by rw [s_64]; rfl) rfl d_LJ_init_80 ?_
  refine v_iload_n (pc := 83) hX rfl d_LJ_init_83 ?_
  refine w_new (pc := 84) (r := 34) (G' := g_65) hX f_64 cl_LJ_46 io_Sh ii_Sh rfl (by rw [s_64]; rfl) ⟨by rw [n_64.1]; exact Nat.le_of_ble_eq_true rfl, by rw [n_64.2]; exact Nat.le_of_ble_eq_true rfl⟩ rfl d_LJ_init_84 ?_
  refine v_dup (pc := 87) hX rfl d_LJ_init_87 ?_
  refine v_callI (pc := 88) (as := []) hX k_Sh_init rfl ki_Sh_init ml_LJ_56 C_Sh_init_4 (by decide) rfl rfl rfl ⟨Nat.le_of_ble_eq_true rfl, Nat.le_of_ble_eq_true rfl, Nat.le_of_ble_eq_true rfl, by rw [n_65.1]; exact Nat.le_of_ble_eq_true rfl, by rw [n_65.2]; exact Nat.le_of_ble_eq_true rfl⟩ (fun r G' h => by rw [h.2, n_67.1, n_67.2, n_65.1, n_65.2]; exact ⟨rfl, rfl⟩) d_LJ_init_88 (fun r G' h => ?_)
  obtain ⟨rfl, rfl⟩ := h
  refine VW.cast (lo' := [some (vR 2), some (vI (3))]) (st' := [vR 34, vI (3), vR 27]) (G' := g_67) rfl rfl rfl ?_
  refine w_aast (pc := 91) (c := 5) (n := 4) (j := 3) (G' := g_68) hX (by decide) (by decide) (by rw [s_67]; rfl) (by decide) (by rw [s_67]; rfl) (by unfold vp_in; decide) (by decide) rfl d_LJ_init_91 ?_
  refine v_iinc (pc := 92) (lo' := [some (vR 2), some (vI (4))]) hX rfl rfl d_LJ_init_92 ?_
  refine v_goto (pc := 95) (tgt := 74) hX d_LJ_init_95 rfl ?_
  refine v_iload_n (pc := 74) hX rfl d_LJ_init_74 ?_
  refine v_iconst (pc := 75) (v := 4) hX (by decide) d_LJ_init_75 ?_
  refine v_icmp_ge (pc := 76) (tgt := 98) hX d_LJ_init_76 rfl (fun _ => ?_) (fun hc => absurd (by decide) hc)
  exact v_vret (pc := 98) hX hR (by rw [n_68.1, n_1.1]) (by rw [n_68.2, n_1.2]) ⟨rfl, rfl⟩ d_LJ_init_98
def g_69 : GG := aO g_68 (0, 9)
theorem f_69 : Fr g_69 := f_68.aO _
theorem s_69 : g_69.1 = [(1, 0), (1, 0), (0, 8), (0, 6), (3, 6), (2, 4), (0, 1), (0, 1), (0, 1), (0, 1), (0, 1), (0, 1), (0, 0), (0, 0), (0, 0), (0, 0), (0, 3), (1, 6), (1, 4), (0, 4), (1, 6), (1, 4), (0, 2), (1, 8), (1, 8), (1, 8), (0, 7), (7, 4), (0, 5), (1, 60), (0, 5), (1, 60), (0, 5), (1, 60), (0, 5), (1, 60), (0, 9)] := by show g_68.1 ++ _ = _; rw [s_68]; rfl
theorem n_69 : gC g_69 = 37 ∧ gS g_69 = 419 := by unfold gC gS; rw [s_69]; exact ⟨rfl, rfl⟩
theorem d_Mo_init_0 : decode c_Mo_init 0 = .ok (.aload_n 0, 1) := by decide +kernel
theorem d_Mo_init_1 : decode c_Mo_init 1 = .ok (.invokespecial 1, 3) := by decide +kernel
theorem d_Mo_init_4 : decode c_Mo_init 4 = .ok (.aload_n 0, 1) := by decide +kernel
theorem d_Mo_init_5 : decode c_Mo_init 5 = .ok (.bipush 6, 2) := by decide +kernel
theorem d_Mo_init_7 : decode c_Mo_init 7 = .ok (.newarray .int, 2) := by decide +kernel
theorem d_Mo_init_9 : decode c_Mo_init 9 = .ok (.putfield 7, 3) := by decide +kernel
theorem d_Mo_init_12 : decode c_Mo_init 12 = .ok (.aload_n 0, 1) := by decide +kernel
theorem d_Mo_init_13 : decode c_Mo_init 13 = .ok (.bipush 6, 2) := by decide +kernel
theorem d_Mo_init_15 : decode c_Mo_init 15 = .ok (.newarray .int, 2) := by decide +kernel
theorem d_Mo_init_17 : decode c_Mo_init 17 = .ok (.putfield 13, 3) := by decide +kernel
theorem d_Mo_init_20 : decode c_Mo_init 20 = .ok (.aload_n 0, 1) := by decide +kernel
theorem d_Mo_init_21 : decode c_Mo_init 21 = .ok (.bipush 6, 2) := by decide +kernel
theorem d_Mo_init_23 : decode c_Mo_init 23 = .ok (.newarray .int, 2) := by decide +kernel
theorem d_Mo_init_25 : decode c_Mo_init 25 = .ok (.putfield 16, 3) := by decide +kernel
theorem d_Mo_init_28 : decode c_Mo_init 28 = .ok (.aload_n 0, 1) := by decide +kernel
theorem d_Mo_init_29 : decode c_Mo_init 29 = .ok (.bipush 6, 2) := by decide +kernel
theorem d_Mo_init_31 : decode c_Mo_init 31 = .ok (.newarray .int, 2) := by decide +kernel
theorem d_Mo_init_33 : decode c_Mo_init 33 = .ok (.putfield 19, 3) := by decide +kernel
theorem d_Mo_init_36 : decode c_Mo_init 36 = .ok (.aload_n 0, 1) := by decide +kernel
theorem d_Mo_init_37 : decode c_Mo_init 37 = .ok (.bipush 6, 2) := by decide +kernel
theorem d_Mo_init_39 : decode c_Mo_init 39 = .ok (.newarray .int, 2) := by decide +kernel
theorem d_Mo_init_41 : decode c_Mo_init 41 = .ok (.putfield 22, 3) := by decide +kernel
theorem d_Mo_init_44 : decode c_Mo_init 44 = .ok (.aload_n 0, 1) := by decide +kernel
theorem d_Mo_init_45 : decode c_Mo_init 45 = .ok (.iconst 4, 1) := by decide +kernel
theorem d_Mo_init_46 : decode c_Mo_init 46 = .ok (.newarray .int, 2) := by decide +kernel
theorem d_Mo_init_48 : decode c_Mo_init 48 = .ok (.putfield 25, 3) := by decide +kernel
theorem d_Mo_init_51 : decode c_Mo_init 51 = .ok (.aload_n 0, 1) := by decide +kernel
theorem d_Mo_init_52 : decode c_Mo_init 52 = .ok (.iconst 4, 1) := by decide +kernel
theorem d_Mo_init_53 : decode c_Mo_init 53 = .ok (.newarray .int, 2) := by decide +kernel
theorem d_Mo_init_55 : decode c_Mo_init 55 = .ok (.putfield 28, 3) := by decide +kernel
theorem d_Mo_init_58 : decode c_Mo_init 58 = .ok (.aload_n 0, 1) := by decide +kernel
theorem d_Mo_init_59 : decode c_Mo_init 59 = .ok (.iconst 4, 1) := by decide +kernel
theorem d_Mo_init_60 : decode c_Mo_init 60 = .ok (.newarray .int, 2) := by decide +kernel
theorem d_Mo_init_62 : decode c_Mo_init 62 = .ok (.putfield 31, 3) := by decide +kernel
theorem d_Mo_init_65 : decode c_Mo_init 65 = .ok (.aload_n 0, 1) := by decide +kernel
theorem d_Mo_init_66 : decode c_Mo_init 66 = .ok (.iconst 4, 1) := by decide +kernel
theorem d_Mo_init_67 : decode c_Mo_init 67 = .ok (.newarray .int, 2) := by decide +kernel
theorem d_Mo_init_69 : decode c_Mo_init 69 = .ok (.putfield 34, 3) := by decide +kernel
theorem d_Mo_init_72 : decode c_Mo_init 72 = .ok (.aload_n 0, 1) := by decide +kernel
theorem d_Mo_init_73 : decode c_Mo_init 73 = .ok (.bipush 6, 2) := by decide +kernel
theorem d_Mo_init_75 : decode c_Mo_init 75 = .ok (.newarray .int, 2) := by decide +kernel
theorem d_Mo_init_77 : decode c_Mo_init 77 = .ok (.putfield 37, 3) := by decide +kernel
theorem d_Mo_init_80 : decode c_Mo_init 80 = .ok (.aload_n 0, 1) := by decide +kernel
theorem d_Mo_init_81 : decode c_Mo_init 81 = .ok (.bipush 6, 2) := by decide +kernel
theorem d_Mo_init_83 : decode c_Mo_init 83 = .ok (.newarray .int, 2) := by decide +kernel
theorem d_Mo_init_85 : decode c_Mo_init 85 = .ok (.putfield 40, 3) := by decide +kernel
theorem d_Mo_init_88 : decode c_Mo_init 88 = .ok (.aload_n 0, 1) := by decide +kernel
theorem d_Mo_init_89 : decode c_Mo_init 89 = .ok (.bipush 6, 2) := by decide +kernel
theorem d_Mo_init_91 : decode c_Mo_init 91 = .ok (.newarray .int, 2) := by decide +kernel
theorem d_Mo_init_93 : decode c_Mo_init 93 = .ok (.putfield 43, 3) := by decide +kernel
theorem d_Mo_init_96 : decode c_Mo_init 96 = .ok (.aload_n 0, 1) := by decide +kernel
theorem d_Mo_init_97 : decode c_Mo_init 97 = .ok (.bipush 6, 2) := by decide +kernel
theorem d_Mo_init_99 : decode c_Mo_init 99 = .ok (.newarray .int, 2) := by decide +kernel
theorem d_Mo_init_101 : decode c_Mo_init 101 = .ok (.putfield 46, 3) := by decide +kernel
theorem d_Mo_init_104 : decode c_Mo_init 104 = .ok (.aload_n 0, 1) := by decide +kernel
theorem d_Mo_init_105 : decode c_Mo_init 105 = .ok (.bipush 6, 2) := by decide +kernel
theorem d_Mo_init_107 : decode c_Mo_init 107 = .ok (.newarray .int, 2) := by decide +kernel
theorem d_Mo_init_109 : decode c_Mo_init 109 = .ok (.putfield 49, 3) := by decide +kernel
theorem d_Mo_init_112 : decode c_Mo_init 112 = .ok (.aload_n 0, 1) := by decide +kernel
theorem d_Mo_init_113 : decode c_Mo_init 113 = .ok (.iconst 4, 1) := by decide +kernel
theorem d_Mo_init_114 : decode c_Mo_init 114 = .ok (.newarray .int, 2) := by decide +kernel
theorem d_Mo_init_116 : decode c_Mo_init 116 = .ok (.putfield 52, 3) := by decide +kernel
theorem d_Mo_init_119 : decode c_Mo_init 119 = .ok (.aload_n 0, 1) := by decide +kernel
theorem d_Mo_init_120 : decode c_Mo_init 120 = .ok (.iconst 4, 1) := by decide +kernel
theorem d_Mo_init_121 : decode c_Mo_init 121 = .ok (.newarray .int, 2) := by decide +kernel
theorem d_Mo_init_123 : decode c_Mo_init 123 = .ok (.putfield 55, 3) := by decide +kernel
theorem d_Mo_init_126 : decode c_Mo_init 126 = .ok (.aload_n 0, 1) := by decide +kernel
theorem d_Mo_init_127 : decode c_Mo_init 127 = .ok (.iconst 4, 1) := by decide +kernel
theorem d_Mo_init_128 : decode c_Mo_init 128 = .ok (.newarray .int, 2) := by decide +kernel
theorem d_Mo_init_130 : decode c_Mo_init 130 = .ok (.putfield 58, 3) := by decide +kernel
theorem d_Mo_init_133 : decode c_Mo_init 133 = .ok (.aload_n 0, 1) := by decide +kernel
theorem d_Mo_init_134 : decode c_Mo_init 134 = .ok (.bipush 6, 2) := by decide +kernel
theorem d_Mo_init_136 : decode c_Mo_init 136 = .ok (.newarray .int, 2) := by decide +kernel
theorem d_Mo_init_138 : decode c_Mo_init 138 = .ok (.putfield 61, 3) := by decide +kernel
theorem d_Mo_init_141 : decode c_Mo_init 141 = .ok (.aload_n 0, 1) := by decide +kernel
theorem d_Mo_init_142 : decode c_Mo_init 142 = .ok (.iconst 4, 1) := by decide +kernel
theorem d_Mo_init_143 : decode c_Mo_init 143 = .ok (.newarray .int, 2) := by decide +kernel
theorem d_Mo_init_145 : decode c_Mo_init 145 = .ok (.putfield 64, 3) := by decide +kernel
theorem d_Mo_init_148 : decode c_Mo_init 148 = .ok (.aload_n 0, 1) := by decide +kernel
theorem d_Mo_init_149 : decode c_Mo_init 149 = .ok (.bipush 7, 2) := by decide +kernel
theorem d_Mo_init_151 : decode c_Mo_init 151 = .ok (.newarray .int, 2) := by decide +kernel
theorem d_Mo_init_153 : decode c_Mo_init 153 = .ok (.putfield 67, 3) := by decide +kernel
theorem d_Mo_init_156 : decode c_Mo_init 156 = .ok (.aload_n 0, 1) := by decide +kernel
theorem d_Mo_init_157 : decode c_Mo_init 157 = .ok (.bipush 8, 2) := by decide +kernel
theorem d_Mo_init_159 : decode c_Mo_init 159 = .ok (.newarray .int, 2) := by decide +kernel
theorem d_Mo_init_161 : decode c_Mo_init 161 = .ok (.putfield 70, 3) := by decide +kernel
theorem d_Mo_init_164 : decode c_Mo_init 164 = .ok (.aload_n 0, 1) := by decide +kernel
theorem d_Mo_init_165 : decode c_Mo_init 165 = .ok (.bipush 8, 2) := by decide +kernel
theorem d_Mo_init_167 : decode c_Mo_init 167 = .ok (.newarray .int, 2) := by decide +kernel
theorem d_Mo_init_169 : decode c_Mo_init 169 = .ok (.putfield 73, 3) := by decide +kernel
theorem d_Mo_init_172 : decode c_Mo_init 172 = .ok (.aload_n 0, 1) := by decide +kernel
theorem d_Mo_init_173 : decode c_Mo_init 173 = .ok (.bipush 8, 2) := by decide +kernel
theorem d_Mo_init_175 : decode c_Mo_init 175 = .ok (.newarray .int, 2) := by decide +kernel
theorem d_Mo_init_177 : decode c_Mo_init 177 = .ok (.putfield 76, 3) := by decide +kernel
theorem d_Mo_init_180 : decode c_Mo_init 180 = .ok (.aload_n 0, 1) := by decide +kernel
theorem d_Mo_init_181 : decode c_Mo_init 181 = .ok (.iconst 4, 1) := by decide +kernel
theorem d_Mo_init_182 : decode c_Mo_init 182 = .ok (.newarray .int, 2) := by decide +kernel
theorem d_Mo_init_184 : decode c_Mo_init 184 = .ok (.putfield 79, 3) := by decide +kernel
theorem d_Mo_init_187 : decode c_Mo_init 187 = .ok (.aload_n 0, 1) := by decide +kernel
theorem d_Mo_init_188 : decode c_Mo_init 188 = .ok (.iconst 4, 1) := by decide +kernel
theorem d_Mo_init_189 : decode c_Mo_init 189 = .ok (.newarray .int, 2) := by decide +kernel
theorem d_Mo_init_191 : decode c_Mo_init 191 = .ok (.putfield 82, 3) := by decide +kernel
theorem d_Mo_init_194 : decode c_Mo_init 194 = .ok (.aload_n 0, 1) := by decide +kernel
theorem d_Mo_init_195 : decode c_Mo_init 195 = .ok (.sipush 240, 3) := by decide +kernel
theorem d_Mo_init_198 : decode c_Mo_init 198 = .ok (.newarray .int, 2) := by decide +kernel
theorem d_Mo_init_200 : decode c_Mo_init 200 = .ok (.putfield 85, 3) := by decide +kernel
theorem d_Mo_init_203 : decode c_Mo_init 203 = .ok (.aload_n 0, 1) := by decide +kernel
theorem d_Mo_init_204 : decode c_Mo_init 204 = .ok (.bipush 60, 2) := by decide +kernel
theorem d_Mo_init_206 : decode c_Mo_init 206 = .ok (.newarray .int, 2) := by decide +kernel
theorem d_Mo_init_208 : decode c_Mo_init 208 = .ok (.putfield 88, 3) := by decide +kernel
theorem d_Mo_init_211 : decode c_Mo_init 211 = .ok (.iconst 0, 1) := by decide +kernel
theorem d_Mo_init_212 : decode c_Mo_init 212 = .ok (.istore_n 1, 1) := by decide +kernel
theorem d_Mo_init_213 : decode c_Mo_init 213 = .ok (.iload_n 1, 1) := by decide +kernel
theorem d_Mo_init_214 : decode c_Mo_init 214 = .ok (.iconst 4, 1) := by decide +kernel
theorem d_Mo_init_215 : decode c_Mo_init 215 = .ok (.if_icmp .ge 16, 3) := by decide +kernel
theorem d_Mo_init_218 : decode c_Mo_init 218 = .ok (.aload_n 0, 1) := by decide +kernel
theorem d_Mo_init_219 : decode c_Mo_init 219 = .ok (.getfield 79, 3) := by decide +kernel
theorem d_Mo_init_222 : decode c_Mo_init 222 = .ok (.iload_n 1, 1) := by decide +kernel
theorem d_Mo_init_223 : decode c_Mo_init 223 = .ok (.iconst (-1), 1) := by decide +kernel
theorem d_Mo_init_224 : decode c_Mo_init 224 = .ok (.iastore, 1) := by decide +kernel
theorem d_Mo_init_225 : decode c_Mo_init 225 = .ok (.iinc 1 1, 3) := by decide +kernel
theorem d_Mo_init_228 : decode c_Mo_init 228 = .ok (.goto (-15), 3) := by decide +kernel
theorem d_Mo_init_231 : decode c_Mo_init 231 = .ok (.return_, 1) := by decide +kernel
def g_70 : GG := aO g_69 (1, 6)
theorem f_70 : Fr g_70 := f_69.aO _
theorem s_70 : g_70.1 = [(1, 0), (1, 0), (0, 8), (0, 6), (3, 6), (2, 4), (0, 1), (0, 1), (0, 1), (0, 1), (0, 1), (0, 1), (0, 0), (0, 0), (0, 0), (0, 0), (0, 3), (1, 6), (1, 4), (0, 4), (1, 6), (1, 4), (0, 2), (1, 8), (1, 8), (1, 8), (0, 7), (7, 4), (0, 5), (1, 60), (0, 5), (1, 60), (0, 5), (1, 60), (0, 5), (1, 60), (0, 9), (1, 6)] := by show g_69.1 ++ _ = _; rw [s_69]; rfl
theorem n_70 : gC g_70 = 38 ∧ gS g_70 = 425 := by unfold gC gS; rw [s_70]; exact ⟨rfl, rfl⟩
def g_71 : GG := sR g_70 36 2 37
theorem f_71 : Fr g_71 := f_70.sR (by rw [s_70]; exact Nat.le_of_ble_eq_true rfl)
theorem s_71 : g_71.1 = [(1, 0), (1, 0), (0, 8), (0, 6), (3, 6), (2, 4), (0, 1), (0, 1), (0, 1), (0, 1), (0, 1), (0, 1), (0, 0), (0, 0), (0, 0), (0, 0), (0, 3), (1, 6), (1, 4), (0, 4), (1, 6), (1, 4), (0, 2), (1, 8), (1, 8), (1, 8), (0, 7), (7, 4), (0, 5), (1, 60), (0, 5), (1, 60), (0, 5), (1, 60), (0, 5), (1, 60), (0, 9), (1, 6)] := by show g_70.1 = _; exact s_70
theorem n_71 : gC g_71 = 38 ∧ gS g_71 = 425 := by unfold gC gS; rw [s_71]; exact ⟨rfl, rfl⟩
def g_72 : GG := aO g_71 (1, 6)
theorem f_72 : Fr g_72 := f_71.aO _
theorem s_72 : g_72.1 = [(1, 0), (1, 0), (0, 8), (0, 6), (3, 6), (2, 4), (0, 1), (0, 1), (0, 1), (0, 1), (0, 1), (0, 1), (0, 0), (0, 0), (0, 0), (0, 0), (0, 3), (1, 6), (1, 4), (0, 4), (1, 6), (1, 4), (0, 2), (1, 8), (1, 8), (1, 8), (0, 7), (7, 4), (0, 5), (1, 60), (0, 5), (1, 60), (0, 5), (1, 60), (0, 5), (1, 60), (0, 9), (1, 6), (1, 6)] := by show g_71.1 ++ _ = _; rw [s_71]; rfl
theorem n_72 : gC g_72 = 39 ∧ gS g_72 = 431 := by unfold gC gS; rw [s_72]; exact ⟨rfl, rfl⟩
def g_73 : GG := sR g_72 36 3 38
theorem f_73 : Fr g_73 := f_72.sR (by rw [s_72]; exact Nat.le_of_ble_eq_true rfl)
theorem s_73 : g_73.1 = [(1, 0), (1, 0), (0, 8), (0, 6), (3, 6), (2, 4), (0, 1), (0, 1), (0, 1), (0, 1), (0, 1), (0, 1), (0, 0), (0, 0), (0, 0), (0, 0), (0, 3), (1, 6), (1, 4), (0, 4), (1, 6), (1, 4), (0, 2), (1, 8), (1, 8), (1, 8), (0, 7), (7, 4), (0, 5), (1, 60), (0, 5), (1, 60), (0, 5), (1, 60), (0, 5), (1, 60), (0, 9), (1, 6), (1, 6)] := by show g_72.1 = _; exact s_72
theorem n_73 : gC g_73 = 39 ∧ gS g_73 = 431 := by unfold gC gS; rw [s_73]; exact ⟨rfl, rfl⟩
def g_74 : GG := aO g_73 (1, 6)
theorem f_74 : Fr g_74 := f_73.aO _
theorem s_74 : g_74.1 = [(1, 0), (1, 0), (0, 8), (0, 6), (3, 6), (2, 4), (0, 1), (0, 1), (0, 1), (0, 1), (0, 1), (0, 1), (0, 0), (0, 0), (0, 0), (0, 0), (0, 3), (1, 6), (1, 4), (0, 4), (1, 6), (1, 4), (0, 2), (1, 8), (1, 8), (1, 8), (0, 7), (7, 4), (0, 5), (1, 60), (0, 5), (1, 60), (0, 5), (1, 60), (0, 5), (1, 60), (0, 9), (1, 6), (1, 6), (1, 6)] := by show g_73.1 ++ _ = _; rw [s_73]; rfl
theorem n_74 : gC g_74 = 40 ∧ gS g_74 = 437 := by unfold gC gS; rw [s_74]; exact ⟨rfl, rfl⟩
def g_75 : GG := sR g_74 36 4 39
theorem f_75 : Fr g_75 := f_74.sR (by rw [s_74]; exact Nat.le_of_ble_eq_true rfl)
theorem s_75 : g_75.1 = [(1, 0), (1, 0), (0, 8), (0, 6), (3, 6), (2, 4), (0, 1), (0, 1), (0, 1), (0, 1), (0, 1), (0, 1), (0, 0), (0, 0), (0, 0), (0, 0), (0, 3), (1, 6), (1, 4), (0, 4), (1, 6), (1, 4), (0, 2), (1, 8), (1, 8), (1, 8), (0, 7), (7, 4), (0, 5), (1, 60), (0, 5), (1, 60), (0, 5), (1, 60), (0, 5), (1, 60), (0, 9), (1, 6), (1, 6), (1, 6)] := by show g_74.1 = _; exact s_74
theorem n_75 : gC g_75 = 40 ∧ gS g_75 = 437 := by unfold gC gS; rw [s_75]; exact ⟨rfl, rfl⟩
def g_76 : GG := aO g_75 (1, 6)
theorem f_76 : Fr g_76 := f_75.aO _
theorem s_76 : g_76.1 = [(1, 0), (1, 0), (0, 8), (0, 6), (3, 6), (2, 4), (0, 1), (0, 1), (0, 1), (0, 1), (0, 1), (0, 1), (0, 0), (0, 0), (0, 0), (0, 0), (0, 3), (1, 6), (1, 4), (0, 4), (1, 6), (1, 4), (0, 2), (1, 8), (1, 8), (1, 8), (0, 7), (7, 4), (0, 5), (1, 60), (0, 5), (1, 60), (0, 5), (1, 60), (0, 5), (1, 60), (0, 9), (1, 6), (1, 6), (1, 6), (1, 6)] := by show g_75.1 ++ _ = _; rw [s_75]; rfl
theorem n_76 : gC g_76 = 41 ∧ gS g_76 = 443 := by unfold gC gS; rw [s_76]; exact ⟨rfl, rfl⟩
def g_77 : GG := sR g_76 36 5 40
theorem f_77 : Fr g_77 := f_76.sR (by rw [s_76]; exact Nat.le_of_ble_eq_true rfl)
theorem s_77 : g_77.1 = [(1, 0), (1, 0), (0, 8), (0, 6), (3, 6), (2, 4), (0, 1), (0, 1), (0, 1), (0, 1), (0, 1), (0, 1), (0, 0), (0, 0), (0, 0), (0, 0), (0, 3), (1, 6), (1, 4), (0, 4), (1, 6), (1, 4), (0, 2), (1, 8), (1, 8), (1, 8), (0, 7), (7, 4), (0, 5), (1, 60), (0, 5), (1, 60), (0, 5), (1, 60), (0, 5), (1, 60), (0, 9), (1, 6), (1, 6), (1, 6), (1, 6)] := by show g_76.1 = _; exact s_76
theorem n_77 : gC g_77 = 41 ∧ gS g_77 = 443 := by unfold gC gS; rw [s_77]; exact ⟨rfl, rfl⟩
def g_78 : GG := aO g_77 (1, 6)
theorem f_78 : Fr g_78 := f_77.aO _
theorem s_78 : g_78.1 = [(1, 0), (1, 0), (0, 8), (0, 6), (3, 6), (2, 4), (0, 1), (0, 1), (0, 1), (0, 1), (0, 1), (0, 1), (0, 0), (0, 0), (0, 0), (0, 0), (0, 3), (1, 6), (1, 4), (0, 4), (1, 6), (1, 4), (0, 2), (1, 8), (1, 8), (1, 8), (0, 7), (7, 4), (0, 5), (1, 60), (0, 5), (1, 60), (0, 5), (1, 60), (0, 5), (1, 60), (0, 9), (1, 6), (1, 6), (1, 6), (1, 6), (1, 6)] := by show g_77.1 ++ _ = _; rw [s_77]; rfl
theorem n_78 : gC g_78 = 42 ∧ gS g_78 = 449 := by unfold gC gS; rw [s_78]; exact ⟨rfl, rfl⟩
def g_79 : GG := sR g_78 36 6 41
theorem f_79 : Fr g_79 := f_78.sR (by rw [s_78]; exact Nat.le_of_ble_eq_true rfl)
theorem s_79 : g_79.1 = [(1, 0), (1, 0), (0, 8), (0, 6), (3, 6), (2, 4), (0, 1), (0, 1), (0, 1), (0, 1), (0, 1), (0, 1), (0, 0), (0, 0), (0, 0), (0, 0), (0, 3), (1, 6), (1, 4), (0, 4), (1, 6), (1, 4), (0, 2), (1, 8), (1, 8), (1, 8), (0, 7), (7, 4), (0, 5), (1, 60), (0, 5), (1, 60), (0, 5), (1, 60), (0, 5), (1, 60), (0, 9), (1, 6), (1, 6), (1, 6), (1, 6), (1, 6)] := by show g_78.1 = _; exact s_78
theorem n_79 : gC g_79 = 42 ∧ gS g_79 = 449 := by unfold gC gS; rw [s_79]; exact ⟨rfl, rfl⟩
def g_80 : GG := aO g_79 (1, 4)
theorem f_80 : Fr g_80 := f_79.aO _
theorem s_80 : g_80.1 = [(1, 0), (1, 0), (0, 8), (0, 6), (3, 6), (2, 4), (0, 1), (0, 1), (0, 1), (0, 1), (0, 1), (0, 1), (0, 0), (0, 0), (0, 0), (0, 0), (0, 3), (1, 6), (1, 4), (0, 4), (1, 6), (1, 4), (0, 2), (1, 8), (1, 8), (1, 8), (0, 7), (7, 4), (0, 5), (1, 60), (0, 5), (1, 60), (0, 5), (1, 60), (0, 5), (1, 60), (0, 9), (1, 6), (1, 6), (1, 6), (1, 6), (1, 6), (1, 4)] := by show g_79.1 ++ _ = _; rw [s_79]; rfl
theorem n_80 : gC g_80 = 43 ∧ gS g_80 = 453 := by unfold gC gS; rw [s_80]; exact ⟨rfl, rfl⟩
def g_81 : GG := sR g_80 36 8 42
theorem f_81 : Fr g_81 := f_80.sR (by rw [s_80]; exact Nat.le_of_ble_eq_true rfl)
theorem s_81 : g_81.1 = [(1, 0), (1, 0), (0, 8), (0, 6), (3, 6), (2, 4), (0, 1), (0, 1), (0, 1), (0, 1), (0, 1), (0, 1), (0, 0), (0, 0), (0, 0), (0, 0), (0, 3), (1, 6), (1, 4), (0, 4), (1, 6), (1, 4), (0, 2), (1, 8), (1, 8), (1, 8), (0, 7), (7, 4), (0, 5), (1, 60), (0, 5), (1, 60), (0, 5), (1, 60), (0, 5), (1, 60), (0, 9), (1, 6), (1, 6), (1, 6), (1, 6), (1, 6), (1, 4)] := by show g_80.1 = _; exact s_80
theorem n_81 : gC g_81 = 43 ∧ gS g_81 = 453 := by unfold gC gS; rw [s_81]; exact ⟨rfl, rfl⟩
def g_82 : GG := aO g_81 (1, 4)
theorem f_82 : Fr g_82 := f_81.aO _
theorem s_82 : g_82.1 = [(1, 0), (1, 0), (0, 8), (0, 6), (3, 6), (2, 4), (0, 1), (0, 1), (0, 1), (0, 1), (0, 1), (0, 1), (0, 0), (0, 0), (0, 0), (0, 0), (0, 3), (1, 6), (1, 4), (0, 4), (1, 6), (1, 4), (0, 2), (1, 8), (1, 8), (1, 8), (0, 7), (7, 4), (0, 5), (1, 60), (0, 5), (1, 60), (0, 5), (1, 60), (0, 5), (1, 60), (0, 9), (1, 6), (1, 6), (1, 6), (1, 6), (1, 6), (1, 4), (1, 4)] := by show g_81.1 ++ _ = _; rw [s_81]; rfl
theorem n_82 : gC g_82 = 44 ∧ gS g_82 = 457 := by unfold gC gS; rw [s_82]; exact ⟨rfl, rfl⟩
def g_83 : GG := sR g_82 36 9 43
theorem f_83 : Fr g_83 := f_82.sR (by rw [s_82]; exact Nat.le_of_ble_eq_true rfl)
theorem s_83 : g_83.1 = [(1, 0), (1, 0), (0, 8), (0, 6), (3, 6), (2, 4), (0, 1), (0, 1), (0, 1), (0, 1), (0, 1), (0, 1), (0, 0), (0, 0), (0, 0), (0, 0), (0, 3), (1, 6), (1, 4), (0, 4), (1, 6), (1, 4), (0, 2), (1, 8), (1, 8), (1, 8), (0, 7), (7, 4), (0, 5), (1, 60), (0, 5), (1, 60), (0, 5), (1, 60), (0, 5), (1, 60), (0, 9), (1, 6), (1, 6), (1, 6), (1, 6), (1, 6), (1, 4), (1, 4)] := by show g_82.1 = _; exact s_82
theorem n_83 : gC g_83 = 44 ∧ gS g_83 = 457 := by unfold gC gS; rw [s_83]; exact ⟨rfl, rfl⟩
def g_84 : GG := aO g_83 (1, 4)
theorem f_84 : Fr g_84 := f_83.aO _
theorem s_84 : g_84.1 = [(1, 0), (1, 0), (0, 8), (0, 6), (3, 6), (2, 4), (0, 1), (0, 1), (0, 1), (0, 1), (0, 1), (0, 1), (0, 0), (0, 0), (0, 0), (0, 0), (0, 3), (1, 6), (1, 4), (0, 4), (1, 6), (1, 4), (0, 2), (1, 8), (1, 8), (1, 8), (0, 7), (7, 4), (0, 5), (1, 60), (0, 5), (1, 60), (0, 5), (1, 60), (0, 5), (1, 60), (0, 9), (1, 6), (1, 6), (1, 6), (1, 6), (1, 6), (1, 4), (1, 4), (1, 4)] := by show g_83.1 ++ _ = _; rw [s_83]; rfl
theorem n_84 : gC g_84 = 45 ∧ gS g_84 = 461 := by unfold gC gS; rw [s_84]; exact ⟨rfl, rfl⟩
def g_85 : GG := sR g_84 36 10 44
theorem f_85 : Fr g_85 := f_84.sR (by rw [s_84]; exact Nat.le_of_ble_eq_true rfl)
theorem s_85 : g_85.1 = [(1, 0), (1, 0), (0, 8), (0, 6), (3, 6), (2, 4), (0, 1), (0, 1), (0, 1), (0, 1), (0, 1), (0, 1), (0, 0), (0, 0), (0, 0), (0, 0), (0, 3), (1, 6), (1, 4), (0, 4), (1, 6), (1, 4), (0, 2), (1, 8), (1, 8), (1, 8), (0, 7), (7, 4), (0, 5), (1, 60), (0, 5), (1, 60), (0, 5), (1, 60), (0, 5), (1, 60), (0, 9), (1, 6), (1, 6), (1, 6), (1, 6), (1, 6), (1, 4), (1, 4), (1, 4)] := by show g_84.1 = _; exact s_84
theorem n_85 : gC g_85 = 45 ∧ gS g_85 = 461 := by unfold gC gS; rw [s_85]; exact ⟨rfl, rfl⟩
def g_86 : GG := aO g_85 (1, 4)
theorem f_86 : Fr g_86 := f_85.aO _
theorem s_86 : g_86.1 = [(1, 0), (1, 0), (0, 8), (0, 6), (3, 6), (2, 4), (0, 1), (0, 1), (0, 1), (0, 1), (0, 1), (0, 1), (0, 0), (0, 0), (0, 0), (0, 0), (0, 3), (1, 6), (1, 4), (0, 4), (1, 6), (1, 4), (0, 2), (1, 8), (1, 8), (1, 8), (0, 7), (7, 4), (0, 5), (1, 60), (0, 5), (1, 60), (0, 5), (1, 60), (0, 5), (1, 60), (0, 9), (1, 6), (1, 6), (1, 6), (1, 6), (1, 6), (1, 4), (1, 4), (1, 4), (1, 4)] := by show g_85.1 ++ _ = _; rw [s_85]; rfl
theorem n_86 : gC g_86 = 46 ∧ gS g_86 = 465 := by unfold gC gS; rw [s_86]; exact ⟨rfl, rfl⟩
def g_87 : GG := sR g_86 36 11 45
theorem f_87 : Fr g_87 := f_86.sR (by rw [s_86]; exact Nat.le_of_ble_eq_true rfl)
theorem s_87 : g_87.1 = [(1, 0), (1, 0), (0, 8), (0, 6), (3, 6), (2, 4), (0, 1), (0, 1), (0, 1), (0, 1), (0, 1), (0, 1), (0, 0), (0, 0), (0, 0), (0, 0), (0, 3), (1, 6), (1, 4), (0, 4), (1, 6), (1, 4), (0, 2), (1, 8), (1, 8), (1, 8), (0, 7), (7, 4), (0, 5), (1, 60), (0, 5), (1, 60), (0, 5), (1, 60), (0, 5), (1, 60), (0, 9), (1, 6), (1, 6), (1, 6), (1, 6), (1, 6), (1, 4), (1, 4), (1, 4), (1, 4)] := by show g_86.1 = _; exact s_86
theorem n_87 : gC g_87 = 46 ∧ gS g_87 = 465 := by unfold gC gS; rw [s_87]; exact ⟨rfl, rfl⟩
def g_88 : GG := aO g_87 (1, 6)
theorem f_88 : Fr g_88 := f_87.aO _
theorem s_88 : g_88.1 = [(1, 0), (1, 0), (0, 8), (0, 6), (3, 6), (2, 4), (0, 1), (0, 1), (0, 1), (0, 1), (0, 1), (0, 1), (0, 0), (0, 0), (0, 0), (0, 0), (0, 3), (1, 6), (1, 4), (0, 4), (1, 6), (1, 4), (0, 2), (1, 8), (1, 8), (1, 8), (0, 7), (7, 4), (0, 5), (1, 60), (0, 5), (1, 60), (0, 5), (1, 60), (0, 5), (1, 60), (0, 9), (1, 6), (1, 6), (1, 6), (1, 6), (1, 6), (1, 4), (1, 4), (1, 4), (1, 4), (1, 6)] := by show g_87.1 ++ _ = _; rw [s_87]; rfl
theorem n_88 : gC g_88 = 47 ∧ gS g_88 = 471 := by unfold gC gS; rw [s_88]; exact ⟨rfl, rfl⟩
def g_89 : GG := sR g_88 36 15 46
theorem f_89 : Fr g_89 := f_88.sR (by rw [s_88]; exact Nat.le_of_ble_eq_true rfl)
theorem s_89 : g_89.1 = [(1, 0), (1, 0), (0, 8), (0, 6), (3, 6), (2, 4), (0, 1), (0, 1), (0, 1), (0, 1), (0, 1), (0, 1), (0, 0), (0, 0), (0, 0), (0, 0), (0, 3), (1, 6), (1, 4), (0, 4), (1, 6), (1, 4), (0, 2), (1, 8), (1, 8), (1, 8), (0, 7), (7, 4), (0, 5), (1, 60), (0, 5), (1, 60), (0, 5), (1, 60), (0, 5), (1, 60), (0, 9), (1, 6), (1, 6), (1, 6), (1, 6), (1, 6), (1, 4), (1, 4), (1, 4), (1, 4), (1, 6)] := by show g_88.1 = _; exact s_88
theorem n_89 : gC g_89 = 47 ∧ gS g_89 = 471 := by unfold gC gS; rw [s_89]; exact ⟨rfl, rfl⟩
def g_90 : GG := aO g_89 (1, 6)
theorem f_90 : Fr g_90 := f_89.aO _
theorem s_90 : g_90.1 = [(1, 0), (1, 0), (0, 8), (0, 6), (3, 6), (2, 4), (0, 1), (0, 1), (0, 1), (0, 1), (0, 1), (0, 1), (0, 0), (0, 0), (0, 0), (0, 0), (0, 3), (1, 6), (1, 4), (0, 4), (1, 6), (1, 4), (0, 2), (1, 8), (1, 8), (1, 8), (0, 7), (7, 4), (0, 5), (1, 60), (0, 5), (1, 60), (0, 5), (1, 60), (0, 5), (1, 60), (0, 9), (1, 6), (1, 6), (1, 6), (1, 6), (1, 6), (1, 4), (1, 4), (1, 4), (1, 4), (1, 6), (1, 6)] := by show g_89.1 ++ _ = _; rw [s_89]; rfl
theorem n_90 : gC g_90 = 48 ∧ gS g_90 = 477 := by unfold gC gS; rw [s_90]; exact ⟨rfl, rfl⟩
def g_91 : GG := sR g_90 36 16 47
theorem f_91 : Fr g_91 := f_90.sR (by rw [s_90]; exact Nat.le_of_ble_eq_true rfl)
theorem s_91 : g_91.1 = [(1, 0), (1, 0), (0, 8), (0, 6), (3, 6), (2, 4), (0, 1), (0, 1), (0, 1), (0, 1), (0, 1), (0, 1), (0, 0), (0, 0), (0, 0), (0, 0), (0, 3), (1, 6), (1, 4), (0, 4), (1, 6), (1, 4), (0, 2), (1, 8), (1, 8), (1, 8), (0, 7), (7, 4), (0, 5), (1, 60), (0, 5), (1, 60), (0, 5), (1, 60), (0, 5), (1, 60), (0, 9), (1, 6), (1, 6), (1, 6), (1, 6), (1, 6), (1, 4), (1, 4), (1, 4), (1, 4), (1, 6), (1, 6)] := by show g_90.1 = _; exact s_90
theorem n_91 : gC g_91 = 48 ∧ gS g_91 = 477 := by unfold gC gS; rw [s_91]; exact ⟨rfl, rfl⟩
def g_92 : GG := aO g_91 (1, 6)
theorem f_92 : Fr g_92 := f_91.aO _
theorem s_92 : g_92.1 = [(1, 0), (1, 0), (0, 8), (0, 6), (3, 6), (2, 4), (0, 1), (0, 1), (0, 1), (0, 1), (0, 1), (0, 1), (0, 0), (0, 0), (0, 0), (0, 0), (0, 3), (1, 6), (1, 4), (0, 4), (1, 6), (1, 4), (0, 2), (1, 8), (1, 8), (1, 8), (0, 7), (7, 4), (0, 5), (1, 60), (0, 5), (1, 60), (0, 5), (1, 60), (0, 5), (1, 60), (0, 9), (1, 6), (1, 6), (1, 6), (1, 6), (1, 6), (1, 4), (1, 4), (1, 4), (1, 4), (1, 6), (1, 6), (1, 6)] := by show g_91.1 ++ _ = _; rw [s_91]; rfl
theorem n_92 : gC g_92 = 49 ∧ gS g_92 = 483 := by unfold gC gS; rw [s_92]; exact ⟨rfl, rfl⟩
def g_93 : GG := sR g_92 36 17 48
theorem f_93 : Fr g_93 := f_92.sR (by rw [s_92]; exact Nat.le_of_ble_eq_true rfl)
theorem s_93 : g_93.1 = [(1, 0), (1, 0), (0, 8), (0, 6), (3, 6), (2, 4), (0, 1), (0, 1), (0, 1), (0, 1), (0, 1), (0, 1), (0, 0), (0, 0), (0, 0), (0, 0), (0, 3), (1, 6), (1, 4), (0, 4), (1, 6), (1, 4), (0, 2), (1, 8), (1, 8), (1, 8), (0, 7), (7, 4), (0, 5), (1, 60), (0, 5), (1, 60), (0, 5), (1, 60), (0, 5), (1, 60), (0, 9), (1, 6), (1, 6), (1, 6), (1, 6), (1, 6), (1, 4), (1, 4), (1, 4), (1, 4), (1, 6), (1, 6), (1, 6)] := by show g_92.1 = _; exact s_92
theorem n_93 : gC g_93 = 49 ∧ gS g_93 = 483 := by unfold gC gS; rw [s_93]; exact ⟨rfl, rfl⟩
def g_94 : GG := aO g_93 (1, 6)
theorem f_94 : Fr g_94 := f_93.aO _
theorem s_94 : g_94.1 = [(1, 0), (1, 0), (0, 8), (0, 6), (3, 6), (2, 4), (0, 1), (0, 1), (0, 1), (0, 1), (0, 1), (0, 1), (0, 0), (0, 0), (0, 0), (0, 0), (0, 3), (1, 6), (1, 4), (0, 4), (1, 6), (1, 4), (0, 2), (1, 8), (1, 8), (1, 8), (0, 7), (7, 4), (0, 5), (1, 60), (0, 5), (1, 60), (0, 5), (1, 60), (0, 5), (1, 60), (0, 9), (1, 6), (1, 6), (1, 6), (1, 6), (1, 6), (1, 4), (1, 4), (1, 4), (1, 4), (1, 6), (1, 6), (1, 6), (1, 6)] := by show g_93.1 ++ _ = _; rw [s_93]; rfl
theorem n_94 : gC g_94 = 50 ∧ gS g_94 = 489 := by unfold gC gS; rw [s_94]; exact ⟨rfl, rfl⟩
def g_95 : GG := sR g_94 36 18 49
theorem f_95 : Fr g_95 := f_94.sR (by rw [s_94]; exact Nat.le_of_ble_eq_true rfl)
theorem s_95 : g_95.1 = [(1, 0), (1, 0), (0, 8), (0, 6), (3, 6), (2, 4), (0, 1), (0, 1), (0, 1), (0, 1), (0, 1), (0, 1), (0, 0), (0, 0), (0, 0), (0, 0), (0, 3), (1, 6), (1, 4), (0, 4), (1, 6), (1, 4), (0, 2), (1, 8), (1, 8), (1, 8), (0, 7), (7, 4), (0, 5), (1, 60), (0, 5), (1, 60), (0, 5), (1, 60), (0, 5), (1, 60), (0, 9), (1, 6), (1, 6), (1, 6), (1, 6), (1, 6), (1, 4), (1, 4), (1, 4), (1, 4), (1, 6), (1, 6), (1, 6), (1, 6)] := by show g_94.1 = _; exact s_94
theorem n_95 : gC g_95 = 50 ∧ gS g_95 = 489 := by unfold gC gS; rw [s_95]; exact ⟨rfl, rfl⟩
def g_96 : GG := aO g_95 (1, 6)
theorem f_96 : Fr g_96 := f_95.aO _
theorem s_96 : g_96.1 = [(1, 0), (1, 0), (0, 8), (0, 6), (3, 6), (2, 4), (0, 1), (0, 1), (0, 1), (0, 1), (0, 1), (0, 1), (0, 0), (0, 0), (0, 0), (0, 0), (0, 3), (1, 6), (1, 4), (0, 4), (1, 6), (1, 4), (0, 2), (1, 8), (1, 8), (1, 8), (0, 7), (7, 4), (0, 5), (1, 60), (0, 5), (1, 60), (0, 5), (1, 60), (0, 5), (1, 60), (0, 9), (1, 6), (1, 6), (1, 6), (1, 6), (1, 6), (1, 4), (1, 4), (1, 4), (1, 4), (1, 6), (1, 6), (1, 6), (1, 6), (1, 6)] := by show g_95.1 ++ _ = _; rw [s_95]; rfl
theorem n_96 : gC g_96 = 51 ∧ gS g_96 = 495 := by unfold gC gS; rw [s_96]; exact ⟨rfl, rfl⟩
def g_97 : GG := sR g_96 36 19 50
theorem f_97 : Fr g_97 := f_96.sR (by rw [s_96]; exact Nat.le_of_ble_eq_true rfl)
theorem s_97 : g_97.1 = [(1, 0), (1, 0), (0, 8), (0, 6), (3, 6), (2, 4), (0, 1), (0, 1), (0, 1), (0, 1), (0, 1), (0, 1), (0, 0), (0, 0), (0, 0), (0, 0), (0, 3), (1, 6), (1, 4), (0, 4), (1, 6), (1, 4), (0, 2), (1, 8), (1, 8), (1, 8), (0, 7), (7, 4), (0, 5), (1, 60), (0, 5), (1, 60), (0, 5), (1, 60), (0, 5), (1, 60), (0, 9), (1, 6), (1, 6), (1, 6), (1, 6), (1, 6), (1, 4), (1, 4), (1, 4), (1, 4), (1, 6), (1, 6), (1, 6), (1, 6), (1, 6)] := by show g_96.1 = _; exact s_96
theorem n_97 : gC g_97 = 51 ∧ gS g_97 = 495 := by unfold gC gS; rw [s_97]; exact ⟨rfl, rfl⟩
def g_98 : GG := aO g_97 (1, 4)
theorem f_98 : Fr g_98 := f_97.aO _
theorem s_98 : g_98.1 = [(1, 0), (1, 0), (0, 8), (0, 6), (3, 6), (2, 4), (0, 1), (0, 1), (0, 1), (0, 1), (0, 1), (0, 1), (0, 0), (0, 0), (0, 0), (0, 0), (0, 3), (1, 6), (1, 4), (0, 4), (1, 6), (1, 4), (0, 2), (1, 8), (1, 8), (1, 8), (0, 7), (7, 4), (0, 5), (1, 60), (0, 5), (1, 60), (0, 5), (1, 60), (0, 5), (1, 60), (0, 9), (1, 6), (1, 6), (1, 6), (1, 6), (1, 6), (1, 4), (1, 4), (1, 4), (1, 4), (1, 6), (1, 6), (1, 6), (1, 6), (1, 6), (1, 4)] := by show g_97.1 ++ _ = _; rw [s_97]; rfl
theorem n_98 : gC g_98 = 52 ∧ gS g_98 = 499 := by unfold gC gS; rw [s_98]; exact ⟨rfl, rfl⟩
def g_99 : GG := sR g_98 36 20 51
theorem f_99 : Fr g_99 := f_98.sR (by rw [s_98]; exact Nat.le_of_ble_eq_true rfl)
theorem s_99 : g_99.1 = [(1, 0), (1, 0), (0, 8), (0, 6), (3, 6), (2, 4), (0, 1), (0, 1), (0, 1), (0, 1), (0, 1), (0, 1), (0, 0), (0, 0), (0, 0), (0, 0), (0, 3), (1, 6), (1, 4), (0, 4), (1, 6), (1, 4), (0, 2), (1, 8), (1, 8), (1, 8), (0, 7), (7, 4), (0, 5), (1, 60), (0, 5), (1, 60), (0, 5), (1, 60), (0, 5), (1, 60), (0, 9), (1, 6), (1, 6), (1, 6), (1, 6), (1, 6), (1, 4), (1, 4), (1, 4), (1, 4), (1, 6), (1, 6), (1, 6), (1, 6), (1, 6), (1, 4)] := by show g_98.1 = _; exact s_98
theorem n_99 : gC g_99 = 52 ∧ gS g_99 = 499 := by unfold gC gS; rw [s_99]; exact ⟨rfl, rfl⟩
def g_100 : GG := aO g_99 (1, 4)
theorem f_100 : Fr g_100 := f_99.aO _
theorem s_100 : g_100.1 = [(1, 0), (1, 0), (0, 8), (0, 6), (3, 6), (2, 4), (0, 1), (0, 1), (0, 1), (0, 1), (0, 1), (0, 1), (0, 0), (0, 0), (0, 0), (0, 0), (0, 3), (1, 6), (1, 4), (0, 4), (1, 6), (1, 4), (0, 2), (1, 8), (1, 8), (1, 8), (0, 7), (7, 4), (0, 5), (1, 60), (0, 5), (1, 60), (0, 5), (1, 60), (0, 5), (1, 60), (0, 9), (1, 6), (1, 6), (1, 6), (1, 6), (1, 6), (1, 4), (1, 4), (1, 4), (1, 4), (1, 6), (1, 6), (1, 6), (1, 6), (1, 6), (1, 4), (1, 4)] := by show g_99.1 ++ _ = _; rw [s_99]; rfl
theorem n_100 : gC g_100 = 53 ∧ gS g_100 = 503 := by unfold gC gS; rw [s_100]; exact ⟨rfl, rfl⟩
def g_101 : GG := sR g_100 36 21 52
theorem f_101 : Fr g_101 := f_100.sR (by rw [s_100]; exact Nat.le_of_ble_eq_true rfl)
theorem s_101 : g_101.1 = [(1, 0), (1, 0), (0, 8), (0, 6), (3, 6), (2, 4), (0, 1), (0, 1), (0, 1), (0, 1), (0, 1), (0, 1), (0, 0), (0, 0), (0, 0), (0, 0), (0, 3), (1, 6), (1, 4), (0, 4), (1, 6), (1, 4), (0, 2), (1, 8), (1, 8), (1, 8), (0, 7), (7, 4), (0, 5), (1, 60), (0, 5), (1, 60), (0, 5), (1, 60), (0, 5), (1, 60), (0, 9), (1, 6), (1, 6), (1, 6), (1, 6), (1, 6), (1, 4), (1, 4), (1, 4), (1, 4), (1, 6), (1, 6), (1, 6), (1, 6), (1, 6), (1, 4), (1, 4)] := by show g_100.1 = _; exact s_100
theorem n_101 : gC g_101 = 53 ∧ gS g_101 = 503 := by unfold gC gS; rw [s_101]; exact ⟨rfl, rfl⟩
def g_102 : GG := aO g_101 (1, 4)
theorem f_102 : Fr g_102 := f_101.aO _
theorem s_102 : g_102.1 = [(1, 0), (1, 0), (0, 8), (0, 6), (3, 6), (2, 4), (0, 1), (0, 1), (0, 1), (0, 1), (0, 1), (0, 1), (0, 0), (0, 0), (0, 0), (0, 0), (0, 3), (1, 6), (1, 4), (0, 4), (1, 6), (1, 4), (0, 2), (1, 8), (1, 8), (1, 8), (0, 7), (7, 4), (0, 5), (1, 60), (0, 5), (1, 60), (0, 5), (1, 60), (0, 5), (1, 60), (0, 9), (1, 6), (1, 6), (1, 6), (1, 6), (1, 6), (1, 4), (1, 4), (1, 4), (1, 4), (1, 6), (1, 6), (1, 6), (1, 6), (1, 6), (1, 4), (1, 4), (1, 4)] := by show g_101.1 ++ _ = _; rw [s_101]; rfl
theorem n_102 : gC g_102 = 54 ∧ gS g_102 = 507 := by unfold gC gS; rw [s_102]; exact ⟨rfl, rfl⟩
def g_103 : GG := sR g_102 36 22 53
theorem f_103 : Fr g_103 := f_102.sR (by rw [s_102]; exact Nat.le_of_ble_eq_true rfl)
theorem s_103 : g_103.1 = [(1, 0), (1, 0), (0, 8), (0, 6), (3, 6), (2, 4), (0, 1), (0, 1), (0, 1), (0, 1), (0, 1), (0, 1), (0, 0), (0, 0), (0, 0), (0, 0), (0, 3), (1, 6), (1, 4), (0, 4), (1, 6), (1, 4), (0, 2), (1, 8), (1, 8), (1, 8), (0, 7), (7, 4), (0, 5), (1, 60), (0, 5), (1, 60), (0, 5), (1, 60), (0, 5), (1, 60), (0, 9), (1, 6), (1, 6), (1, 6), (1, 6), (1, 6), (1, 4), (1, 4), (1, 4), (1, 4), (1, 6), (1, 6), (1, 6), (1, 6), (1, 6), (1, 4), (1, 4), (1, 4)] := by show g_102.1 = _; exact s_102
theorem n_103 : gC g_103 = 54 ∧ gS g_103 = 507 := by unfold gC gS; rw [s_103]; exact ⟨rfl, rfl⟩
def g_104 : GG := aO g_103 (1, 6)
theorem f_104 : Fr g_104 := f_103.aO _
theorem s_104 : g_104.1 = [(1, 0), (1, 0), (0, 8), (0, 6), (3, 6), (2, 4), (0, 1), (0, 1), (0, 1), (0, 1), (0, 1), (0, 1), (0, 0), (0, 0), (0, 0), (0, 0), (0, 3), (1, 6), (1, 4), (0, 4), (1, 6), (1, 4), (0, 2), (1, 8), (1, 8), (1, 8), (0, 7), (7, 4), (0, 5), (1, 60), (0, 5), (1, 60), (0, 5), (1, 60), (0, 5), (1, 60), (0, 9), (1, 6), (1, 6), (1, 6), (1, 6), (1, 6), (1, 4), (1, 4), (1, 4), (1, 4), (1, 6), (1, 6), (1, 6), (1, 6), (1, 6), (1, 4), (1, 4), (1, 4), (1, 6)] := by show g_103.1 ++ _ = _; rw [s_103]; rfl
theorem n_104 : gC g_104 = 55 ∧ gS g_104 = 513 := by unfold gC gS; rw [s_104]; exact ⟨rfl, rfl⟩
def g_105 : GG := sR g_104 36 23 54
theorem f_105 : Fr g_105 := f_104.sR (by rw [s_104]; exact Nat.le_of_ble_eq_true rfl)
theorem s_105 : g_105.1 = [(1, 0), (1, 0), (0, 8), (0, 6), (3, 6), (2, 4), (0, 1), (0, 1), (0, 1), (0, 1), (0, 1), (0, 1), (0, 0), (0, 0), (0, 0), (0, 0), (0, 3), (1, 6), (1, 4), (0, 4), (1, 6), (1, 4), (0, 2), (1, 8), (1, 8), (1, 8), (0, 7), (7, 4), (0, 5), (1, 60), (0, 5), (1, 60), (0, 5), (1, 60), (0, 5), (1, 60), (0, 9), (1, 6), (1, 6), (1, 6), (1, 6), (1, 6), (1, 4), (1, 4), (1, 4), (1, 4), (1, 6), (1, 6), (1, 6), (1, 6), (1, 6), (1, 4), (1, 4), (1, 4), (1, 6)] := by show g_104.1 = _; exact s_104
theorem n_105 : gC g_105 = 55 ∧ gS g_105 = 513 := by unfold gC gS; rw [s_105]; exact ⟨rfl, rfl⟩
def g_106 : GG := aO g_105 (1, 4)
theorem f_106 : Fr g_106 := f_105.aO _
theorem s_106 : g_106.1 = [(1, 0), (1, 0), (0, 8), (0, 6), (3, 6), (2, 4), (0, 1), (0, 1), (0, 1), (0, 1), (0, 1), (0, 1), (0, 0), (0, 0), (0, 0), (0, 0), (0, 3), (1, 6), (1, 4), (0, 4), (1, 6), (1, 4), (0, 2), (1, 8), (1, 8), (1, 8), (0, 7), (7, 4), (0, 5), (1, 60), (0, 5), (1, 60), (0, 5), (1, 60), (0, 5), (1, 60), (0, 9), (1, 6), (1, 6), (1, 6), (1, 6), (1, 6), (1, 4), (1, 4), (1, 4), (1, 4), (1, 6), (1, 6), (1, 6), (1, 6), (1, 6), (1, 4), (1, 4), (1, 4), (1, 6), (1, 4)] := by show g_105.1 ++ _ = _; rw [s_105]; rfl
theorem n_106 : gC g_106 = 56 ∧ gS g_106 = 517 := by unfold gC gS; rw [s_106]; exact ⟨rfl, rfl⟩
def g_107 : GG := sR g_106 36 24 55
theorem f_107 : Fr g_107 := f_106.sR (by rw [s_106]; exact Nat.le_of_ble_eq_true rfl)
theorem s_107 : g_107.1 = [(1, 0), (1, 0), (0, 8), (0, 6), (3, 6), (2, 4), (0, 1), (0, 1), (0, 1), (0, 1), (0, 1), (0, 1), (0, 0), (0, 0), (0, 0), (0, 0), (0, 3), (1, 6), (1, 4), (0, 4), (1, 6), (1, 4), (0, 2), (1, 8), (1, 8), (1, 8), (0, 7), (7, 4), (0, 5), (1, 60), (0, 5), (1, 60), (0, 5), (1, 60), (0, 5), (1, 60), (0, 9), (1, 6), (1, 6), (1, 6), (1, 6), (1, 6), (1, 4), (1, 4), (1, 4), (1, 4), (1, 6), (1, 6), (1, 6), (1, 6), (1, 6), (1, 4), (1, 4), (1, 4), (1, 6), (1, 4)] := by show g_106.1 = _; exact s_106
theorem n_107 : gC g_107 = 56 ∧ gS g_107 = 517 := by unfold gC gS; rw [s_107]; exact ⟨rfl, rfl⟩
def g_108 : GG := aO g_107 (1, 7)
theorem f_108 : Fr g_108 := f_107.aO _
theorem s_108 : g_108.1 = [(1, 0), (1, 0), (0, 8), (0, 6), (3, 6), (2, 4), (0, 1), (0, 1), (0, 1), (0, 1), (0, 1), (0, 1), (0, 0), (0, 0), (0, 0), (0, 0), (0, 3), (1, 6), (1, 4), (0, 4), (1, 6), (1, 4), (0, 2), (1, 8), (1, 8), (1, 8), (0, 7), (7, 4), (0, 5), (1, 60), (0, 5), (1, 60), (0, 5), (1, 60), (0, 5), (1, 60), (0, 9), (1, 6), (1, 6), (1, 6), (1, 6), (1, 6), (1, 4), (1, 4), (1, 4), (1, 4), (1, 6), (1, 6), (1, 6), (1, 6), (1, 6), (1, 4), (1, 4), (1, 4), (1, 6), (1, 4), (1, 7)] := by show g_107.1 ++ _ = _; rw [s_107]; rfl
theorem n_108 : gC g_108 = 57 ∧ gS g_108 = 524 := by unfold gC gS; rw [s_108]; exact ⟨rfl, rfl⟩
def g_109 : GG := sR g_108 36 25 56
theorem f_109 : Fr g_109 := f_108.sR (by rw [s_108]; exact Nat.le_of_ble_eq_true rfl)
theorem s_109 : g_109.1 = [(1, 0), (1, 0), (0, 8), (0, 6), (3, 6), (2, 4), (0, 1), (0, 1), (0, 1), (0, 1), (0, 1), (0, 1), (0, 0), (0, 0), (0, 0), (0, 0), (0, 3), (1, 6), (1, 4), (0, 4), (1, 6), (1, 4), (0, 2), (1, 8), (1, 8), (1, 8), (0, 7), (7, 4), (0, 5), (1, 60), (0, 5), (1, 60), (0, 5), (1, 60), (0, 5), (1, 60), (0, 9), (1, 6), (1, 6), (1, 6), (1, 6), (1, 6), (1, 4), (1, 4), (1, 4), (1, 4), (1, 6), (1, 6), (1, 6), (1, 6), (1, 6), (1, 4), (1, 4), (1, 4), (1, 6), (1, 4), (1, 7)] := by show g_108.1 = _; exact s_108
theorem n_109 : gC g_109 = 57 ∧ gS g_109 = 524 := by unfold gC gS; rw [s_109]; exact ⟨rfl, rfl⟩
def g_110 : GG := aO g_109 (1, 8)
theorem f_110 : Fr g_110 := f_109.aO _
theorem s_110 : g_110.1 = [(1, 0), (1, 0), (0, 8), (0, 6), (3, 6), (2, 4), (0, 1), (0, 1), (0, 1), (0, 1), (0, 1), (0, 1), (0, 0), (0, 0), (0, 0), (0, 0), (0, 3), (1, 6), (1, 4), (0, 4), (1, 6), (1, 4), (0, 2), (1, 8), (1, 8), (1, 8), (0, 7), (7, 4), (0, 5), (1, 60), (0, 5), (1, 60), (0, 5), (1, 60), (0, 5), (1, 60), (0, 9), (1, 6), (1, 6), (1, 6), (1, 6), (1, 6), (1, 4), (1, 4), (1, 4), (1, 4), (1, 6), (1, 6), (1, 6), (1, 6), (1, 6), (1, 4), (1, 4), (1, 4), (1, 6), (1, 4), (1, 7), (1, 8)] := by show g_109.1 ++ _ = _; rw [s_109]; rfl
theorem n_110 : gC g_110 = 58 ∧ gS g_110 = 532 := by unfold gC gS; rw [s_110]; exact ⟨rfl, rfl⟩
def g_111 : GG := sR g_110 36 28 57
theorem f_111 : Fr g_111 := f_110.sR (by rw [s_110]; exact Nat.le_of_ble_eq_true rfl)
theorem s_111 : g_111.1 = [(1, 0), (1, 0), (0, 8), (0, 6), (3, 6), (2, 4), (0, 1), (0, 1), (0, 1), (0, 1), (0, 1), (0, 1), (0, 0), (0, 0), (0, 0), (0, 0), (0, 3), (1, 6), (1, 4), (0, 4), (1, 6), (1, 4), (0, 2), (1, 8), (1, 8), (1, 8), (0, 7), (7, 4), (0, 5), (1, 60), (0, 5), (1, 60), (0, 5), (1, 60), (0, 5), (1, 60), (0, 9), (1, 6), (1, 6), (1, 6), (1, 6), (1, 6), (1, 4), (1, 4), (1, 4), (1, 4), (1, 6), (1, 6), (1, 6), (1, 6), (1, 6), (1, 4), (1, 4), (1, 4), (1, 6), (1, 4), (1, 7), (1, 8)] := by show g_110.1 = _; exact s_110
theorem n_111 : gC g_111 = 58 ∧ gS g_111 = 532 := by unfold gC gS; rw [s_111]; exact ⟨rfl, rfl⟩
def g_112 : GG := aO g_111 (1, 8)
theorem f_112 : Fr g_112 := f_111.aO _
theorem s_112 : g_112.1 = [(1, 0), (1, 0), (0, 8), (0, 6), (3, 6), (2, 4), (0, 1), (0, 1), (0, 1), (0, 1), (0, 1), (0, 1), (0, 0), (0, 0), (0, 0), (0, 0), (0, 3), (1, 6), (1, 4), (0, 4), (1, 6), (1, 4), (0, 2), (1, 8), (1, 8), (1, 8), (0, 7), (7, 4), (0, 5), (1, 60), (0, 5), (1, 60), (0, 5), (1, 60), (0, 5), (1, 60), (0, 9), (1, 6), (1, 6), (1, 6), (1, 6), (1, 6), (1, 4), (1, 4), (1, 4), (1, 4), (1, 6), (1, 6), (1, 6), (1, 6), (1, 6), (1, 4), (1, 4), (1, 4), (1, 6), (1, 4), (1, 7), (1, 8), (1, 8)] := by show g_111.1 ++ _ = _; rw [s_111]; rfl
theorem n_112 : gC g_112 = 59 ∧ gS g_112 = 540 := by unfold gC gS; rw [s_112]; exact ⟨rfl, rfl⟩
def g_113 : GG := sR g_112 36 29 58
theorem f_113 : Fr g_113 := f_112.sR (by rw [s_112]; exact Nat.le_of_ble_eq_true rfl)
theorem s_113 : g_113.1 = [(1, 0), (1, 0), (0, 8), (0, 6), (3, 6), (2, 4), (0, 1), (0, 1), (0, 1), (0, 1), (0, 1), (0, 1), (0, 0), (0, 0), (0, 0), (0, 0), (0, 3), (1, 6), (1, 4), (0, 4), (1, 6), (1, 4), (0, 2), (1, 8), (1, 8), (1, 8), (0, 7), (7, 4), (0, 5), (1, 60), (0, 5), (1, 60), (0, 5), (1, 60), (0, 5), (1, 60), (0, 9), (1, 6), (1, 6), (1, 6), (1, 6), (1, 6), (1, 4), (1, 4), (1, 4), (1, 4), (1, 6), (1, 6), (1, 6), (1, 6), (1, 6), (1, 4), (1, 4), (1, 4), (1, 6), (1, 4), (1, 7), (1, 8), (1, 8)] := by show g_112.1 = _; exact s_112
theorem n_113 : gC g_113 = 59 ∧ gS g_113 = 540 := by unfold gC gS; rw [s_113]; exact ⟨rfl, rfl⟩
def g_114 : GG := aO g_113 (1, 8)
theorem f_114 : Fr g_114 := f_113.aO _
theorem s_114 : g_114.1 = [(1, 0), (1, 0), (0, 8), (0, 6), (3, 6), (2, 4), (0, 1), (0, 1), (0, 1), (0, 1), (0, 1), (0, 1), (0, 0), (0, 0), (0, 0), (0, 0), (0, 3), (1, 6), (1, 4), (0, 4), (1, 6), (1, 4), (0, 2), (1, 8), (1, 8), (1, 8), (0, 7), (7, 4), (0, 5), (1, 60), (0, 5), (1, 60), (0, 5), (1, 60), (0, 5), (1, 60), (0, 9), (1, 6), (1, 6), (1, 6), (1, 6), (1, 6), (1, 4), (1, 4), (1, 4), (1, 4), (1, 6), (1, 6), (1, 6), (1, 6), (1, 6), (1, 4), (1, 4), (1, 4), (1, 6), (1, 4), (1, 7), (1, 8), (1, 8), (1, 8)] := by show g_113.1 ++ _ = _; rw [s_113]; rfl
theorem n_114 : gC g_114 = 60 ∧ gS g_114 = 548 := by unfold gC gS; rw [s_114]; exact ⟨rfl, rfl⟩
def g_115 : GG := sR g_114 36 30 59
theorem f_115 : Fr g_115 := f_114.sR (by rw [s_114]; exact Nat.le_of_ble_eq_true rfl)
theorem s_115 : g_115.1 = [(1, 0), (1, 0), (0, 8), (0, 6), (3, 6), (2, 4), (0, 1), (0, 1), (0, 1), (0, 1), (0, 1), (0, 1), (0, 0), (0, 0), (0, 0), (0, 0), (0, 3), (1, 6), (1, 4), (0, 4), (1, 6), (1, 4), (0, 2), (1, 8), (1, 8), (1, 8), (0, 7), (7, 4), (0, 5), (1, 60), (0, 5), (1, 60), (0, 5), (1, 60), (0, 5), (1, 60), (0, 9), (1, 6), (1, 6), (1, 6), (1, 6), (1, 6), (1, 4), (1, 4), (1, 4), (1, 4), (1, 6), (1, 6), (1, 6), (1, 6), (1, 6), (1, 4), (1, 4), (1, 4), (1, 6), (1, 4), (1, 7), (1, 8), (1, 8), (1, 8)] := by show g_114.1 = _; exact s_114
theorem n_115 : gC g_115 = 60 ∧ gS g_115 = 548 := by unfold gC gS; rw [s_115]; exact ⟨rfl, rfl⟩
def g_116 : GG := aO g_115 (1, 4)
theorem f_116 : Fr g_116 := f_115.aO _
theorem s_116 : g_116.1 = [(1, 0), (1, 0), (0, 8), (0, 6), (3, 6), (2, 4), (0, 1), (0, 1), (0, 1), (0, 1), (0, 1), (0, 1), (0, 0), (0, 0), (0, 0), (0, 0), (0, 3), (1, 6), (1, 4), (0, 4), (1, 6), (1, 4), (0, 2), (1, 8), (1, 8), (1, 8), (0, 7), (7, 4), (0, 5), (1, 60), (0, 5), (1, 60), (0, 5), (1, 60), (0, 5), (1, 60), (0, 9), (1, 6), (1, 6), (1, 6), (1, 6), (1, 6), (1, 4), (1, 4), (1, 4), (1, 4), (1, 6), (1, 6), (1, 6), (1, 6), (1, 6), (1, 4), (1, 4), (1, 4), (1, 6), (1, 4), (1, 7), (1, 8), (1, 8), (1, 8), (1, 4)] := by show g_115.1 ++ _ = _; rw [s_115]; rfl
theorem n_116 : gC g_116 = 61 ∧ gS g_116 = 552 := by unfold gC gS; rw [s_116]; exact ⟨rfl, rfl⟩
def g_117 : GG := sR g_116 36 31 60
theorem f_117 : Fr g_117 := f_116.sR (by rw [s_116]; exact Nat.le_of_ble_eq_true rfl)
theorem s_117 : g_117.1 = [(1, 0), (1, 0), (0, 8), (0, 6), (3, 6), (2, 4), (0, 1), (0, 1), (0, 1), (0, 1), (0, 1), (0, 1), (0, 0), (0, 0), (0, 0), (0, 0), (0, 3), (1, 6), (1, 4), (0, 4), (1, 6), (1, 4), (0, 2), (1, 8), (1, 8), (1, 8), (0, 7), (7, 4), (0, 5), (1, 60), (0, 5), (1, 60), (0, 5), (1, 60), (0, 5), (1, 60), (0, 9), (1, 6), (1, 6), (1, 6), (1, 6), (1, 6), (1, 4), (1, 4), (1, 4), (1, 4), (1, 6), (1, 6), (1, 6), (1, 6), (1, 6), (1, 4), (1, 4), (1, 4), (1, 6), (1, 4), (1, 7), (1, 8), (1, 8), (1, 8), (1, 4)] := by show g_116.1 = _; exact s_116
theorem n_117 : gC g_117 = 61 ∧ gS g_117 = 552 := by unfold gC gS; rw [s_117]; exact ⟨rfl, rfl⟩
def g_118 : GG := aO g_117 (1, 4)
theorem f_118 : Fr g_118 := f_117.aO _
theorem s_118 : g_118.1 = [(1, 0), (1, 0), (0, 8), (0, 6), (3, 6), (2, 4), (0, 1), (0, 1), (0, 1), (0, 1), (0, 1), (0, 1), (0, 0), (0, 0), (0, 0), (0, 0), (0, 3), (1, 6), (1, 4), (0, 4), (1, 6), (1, 4), (0, 2), (1, 8), (1, 8), (1, 8), (0, 7), (7, 4), (0, 5), (1, 60), (0, 5), (1, 60), (0, 5), (1, 60), (0, 5), (1, 60), (0, 9), (1, 6), (1, 6), (1, 6), (1, 6), (1, 6), (1, 4), (1, 4), (1, 4), (1, 4), (1, 6), (1, 6), (1, 6), (1, 6), (1, 6), (1, 4), (1, 4), (1, 4), (1, 6), (1, 4), (1, 7), (1, 8), (1, 8), (1, 8), (1, 4), (1, 4)] := by show g_117.1 ++ _ = _; rw [s_117]; rfl
theorem n_118 : gC g_118 = 62 ∧ gS g_118 = 556 := by unfold gC gS; rw [s_118]; exact ⟨rfl, rfl⟩
def g_119 : GG := sR g_118 36 32 61
theorem f_119 : Fr g_119 := f_118.sR (by rw [s_118]; exact Nat.le_of_ble_eq_true rfl)
theorem s_119 : g_119.1 = [(1, 0), (1, 0), (0, 8), (0, 6), (3, 6), (2, 4), (0, 1), (0, 1), (0, 1), (0, 1), (0, 1), (0, 1), (0, 0), (0, 0), (0, 0), (0, 0), (0, 3), (1, 6), (1, 4), (0, 4), (1, 6), (1, 4), (0, 2), (1, 8), (1, 8), (1, 8), (0, 7), (7, 4), (0, 5), (1, 60), (0, 5), (1, 60), (0, 5), (1, 60), (0, 5), (1, 60), (0, 9), (1, 6), (1, 6), (1, 6), (1, 6), (1, 6), (1, 4), (1, 4), (1, 4), (1, 4), (1, 6), (1, 6), (1, 6), (1, 6), (1, 6), (1, 4), (1, 4), (1, 4), (1, 6), (1, 4), (1, 7), (1, 8), (1, 8), (1, 8), (1, 4), (1, 4)] := by show g_118.1 = _; exact s_118
theorem n_119 : gC g_119 = 62 ∧ gS g_119 = 556 := by unfold gC gS; rw [s_119]; exact ⟨rfl, rfl⟩
def g_120 : GG := aO g_119 (1, 240)
theorem f_120 : Fr g_120 := f_119.aO _
theorem s_120 : g_120.1 = [(1, 0), (1, 0), (0, 8), (0, 6), (3, 6), (2, 4), (0, 1), (0, 1), (0, 1), (0, 1), (0, 1), (0, 1), (0, 0), (0, 0), (0, 0), (0, 0), (0, 3), (1, 6), (1, 4), (0, 4), (1, 6), (1, 4), (0, 2), (1, 8), (1, 8), (1, 8), (0, 7), (7, 4), (0, 5), (1, 60), (0, 5), (1, 60), (0, 5), (1, 60), (0, 5), (1, 60), (0, 9), (1, 6), (1, 6), (1, 6), (1, 6), (1, 6), (1, 4), (1, 4), (1, 4), (1, 4), (1, 6), (1, 6), (1, 6), (1, 6), (1, 6), (1, 4), (1, 4), (1, 4), (1, 6), (1, 4), (1, 7), (1, 8), (1, 8), (1, 8), (1, 4), (1, 4), (1, 240)] := by show g_119.1 ++ _ = _; rw [s_119]; rfl
theorem n_120 : gC g_120 = 63 ∧ gS g_120 = 796 := by unfold gC gS; rw [s_120]; exact ⟨rfl, rfl⟩
def g_121 : GG := sR g_120 36 33 62
theorem f_121 : Fr g_121 := f_120.sR (by rw [s_120]; exact Nat.le_of_ble_eq_true rfl)
theorem s_121 : g_121.1 = [(1, 0), (1, 0), (0, 8), (0, 6), (3, 6), (2, 4), (0, 1), (0, 1), (0, 1), (0, 1), (0, 1), (0, 1), (0, 0), (0, 0), (0, 0), (0, 0), (0, 3), (1, 6), (1, 4), (0, 4), (1, 6), (1, 4), (0, 2), (1, 8), (1, 8), (1, 8), (0, 7), (7, 4), (0, 5), (1, 60), (0, 5), (1, 60), (0, 5), (1, 60), (0, 5), (1, 60), (0, 9), (1, 6), (1, 6), (1, 6), (1, 6), (1, 6), (1, 4), (1, 4), (1, 4), (1, 4), (1, 6), (1, 6), (1, 6), (1, 6), (1, 6), (1, 4), (1, 4), (1, 4), (1, 6), (1, 4), (1, 7), (1, 8), (1, 8), (1, 8), (1, 4), (1, 4), (1, 240)] := by show g_120.1 = _; exact s_120
theorem n_121 : gC g_121 = 63 ∧ gS g_121 = 796 := by unfold gC gS; rw [s_121]; exact ⟨rfl, rfl⟩
def g_122 : GG := aO g_121 (1, 60)
theorem f_122 : Fr g_122 := f_121.aO _
theorem s_122 : g_122.1 = [(1, 0), (1, 0), (0, 8), (0, 6), (3, 6), (2, 4), (0, 1), (0, 1), (0, 1), (0, 1), (0, 1), (0, 1), (0, 0), (0, 0), (0, 0), (0, 0), (0, 3), (1, 6), (1, 4), (0, 4), (1, 6), (1, 4), (0, 2), (1, 8), (1, 8), (1, 8), (0, 7), (7, 4), (0, 5), (1, 60), (0, 5), (1, 60), (0, 5), (1, 60), (0, 5), (1, 60), (0, 9), (1, 6), (1, 6), (1, 6), (1, 6), (1, 6), (1, 4), (1, 4), (1, 4), (1, 4), (1, 6), (1, 6), (1, 6), (1, 6), (1, 6), (1, 4), (1, 4), (1, 4), (1, 6), (1, 4), (1, 7), (1, 8), (1, 8), (1, 8), (1, 4), (1, 4), (1, 240), (1, 60)] := by show g_121.1 ++ _ = _; rw [s_121]; rfl
theorem n_122 : gC g_122 = 64 ∧ gS g_122 = 856 := by unfold gC gS; rw [s_122]; exact ⟨rfl, rfl⟩
def g_123 : GG := sR g_122 36 34 63
theorem f_123 : Fr g_123 := f_122.sR (by rw [s_122]; exact Nat.le_of_ble_eq_true rfl)
theorem s_123 : g_123.1 = [(1, 0), (1, 0), (0, 8), (0, 6), (3, 6), (2, 4), (0, 1), (0, 1), (0, 1), (0, 1), (0, 1), (0, 1), (0, 0), (0, 0), (0, 0), (0, 0), (0, 3), (1, 6), (1, 4), (0, 4), (1, 6), (1, 4), (0, 2), (1, 8), (1, 8), (1, 8), (0, 7), (7, 4), (0, 5), (1, 60), (0, 5), (1, 60), (0, 5), (1, 60), (0, 5), (1, 60), (0, 9), (1, 6), (1, 6), (1, 6), (1, 6), (1, 6), (1, 4), (1, 4), (1, 4), (1, 4), (1, 6), (1, 6), (1, 6), (1, 6), (1, 6), (1, 4), (1, 4), (1, 4), (1, 6), (1, 4), (1, 7), (1, 8), (1, 8), (1, 8), (1, 4), (1, 4), (1, 240), (1, 60)] := by show g_122.1 = _; exact s_122
theorem n_123 : gC g_123 = 64 ∧ gS g_123 = 856 := by unfold gC gS; rw [s_123]; exact ⟨rfl, rfl⟩
def g_124 : GG := sI g_123 60 0 (-1)
theorem f_124 : Fr g_124 := f_123.sI (by rw [s_123]; exact Nat.le_of_ble_eq_true rfl)
theorem s_124 : g_124.1 = [(1, 0), (1, 0), (0, 8), (0, 6), (3, 6), (2, 4), (0, 1), (0, 1), (0, 1), (0, 1), (0, 1), (0, 1), (0, 0), (0, 0), (0, 0), (0, 0), (0, 3), (1, 6), (1, 4), (0, 4), (1, 6), (1, 4), (0, 2), (1, 8), (1, 8), (1, 8), (0, 7), (7, 4), (0, 5), (1, 60), (0, 5), (1, 60), (0, 5), (1, 60), (0, 5), (1, 60), (0, 9), (1, 6), (1, 6), (1, 6), (1, 6), (1, 6), (1, 4), (1, 4), (1, 4), (1, 4), (1, 6), (1, 6), (1, 6), (1, 6), (1, 6), (1, 4), (1, 4), (1, 4), (1, 6), (1, 4), (1, 7), (1, 8), (1, 8), (1, 8), (1, 4), (1, 4), (1, 240), (1, 60)] := by show g_123.1 = _; exact s_123
theorem n_124 : gC g_124 = 64 ∧ gS g_124 = 856 := by unfold gC gS; rw [s_124]; exact ⟨rfl, rfl⟩
def g_125 : GG := sI g_124 60 1 (-1)
theorem f_125 : Fr g_125 := f_124.sI (by rw [s_124]; exact Nat.le_of_ble_eq_true rfl)
theorem s_125 : g_125.1 = [(1, 0), (1, 0), (0, 8), (0, 6), (3, 6), (2, 4), (0, 1), (0, 1), (0, 1), (0, 1), (0, 1), (0, 1), (0, 0), (0, 0), (0, 0), (0, 0), (0, 3), (1, 6), (1, 4), (0, 4), (1, 6), (1, 4), (0, 2), (1, 8), (1, 8), (1, 8), (0, 7), (7, 4), (0, 5), (1, 60), (0, 5), (1, 60), (0, 5), (1, 60), (0, 5), (1, 60), (0, 9), (1, 6), (1, 6), (1, 6), (1, 6), (1, 6), (1, 4), (1, 4), (1, 4), (1, 4), (1, 6), (1, 6), (1, 6), (1, 6), (1, 6), (1, 4), (1, 4), (1, 4), (1, 6), (1, 4), (1, 7), (1, 8), (1, 8), (1, 8), (1, 4), (1, 4), (1, 240), (1, 60)] := by show g_124.1 = _; exact s_124
theorem n_125 : gC g_125 = 64 ∧ gS g_125 = 856 := by unfold gC gS; rw [s_125]; exact ⟨rfl, rfl⟩
def g_126 : GG := sI g_125 60 2 (-1)
theorem f_126 : Fr g_126 := f_125.sI (by rw [s_125]; exact Nat.le_of_ble_eq_true rfl)
theorem s_126 : g_126.1 = [(1, 0), (1, 0), (0, 8), (0, 6), (3, 6), (2, 4), (0, 1), (0, 1), (0, 1), (0, 1), (0, 1), (0, 1), (0, 0), (0, 0), (0, 0), (0, 0), (0, 3), (1, 6), (1, 4), (0, 4), (1, 6), (1, 4), (0, 2), (1, 8), (1, 8), (1, 8), (0, 7), (7, 4), (0, 5), (1, 60), (0, 5), (1, 60), (0, 5), (1, 60), (0, 5), (1, 60), (0, 9), (1, 6), (1, 6), (1, 6), (1, 6), (1, 6), (1, 4), (1, 4), (1, 4), (1, 4), (1, 6), (1, 6), (1, 6), (1, 6), (1, 6), (1, 4), (1, 4), (1, 4), (1, 6), (1, 4), (1, 7), (1, 8), (1, 8), (1, 8), (1, 4), (1, 4), (1, 240), (1, 60)] := by show g_125.1 = _; exact s_125
theorem n_126 : gC g_126 = 64 ∧ gS g_126 = 856 := by unfold gC gS; rw [s_126]; exact ⟨rfl, rfl⟩
def g_127 : GG := sI g_126 60 3 (-1)
theorem f_127 : Fr g_127 := f_126.sI (by rw [s_126]; exact Nat.le_of_ble_eq_true rfl)
theorem s_127 : g_127.1 = [(1, 0), (1, 0), (0, 8), (0, 6), (3, 6), (2, 4), (0, 1), (0, 1), (0, 1), (0, 1), (0, 1), (0, 1), (0, 0), (0, 0), (0, 0), (0, 0), (0, 3), (1, 6), (1, 4), (0, 4), (1, 6), (1, 4), (0, 2), (1, 8), (1, 8), (1, 8), (0, 7), (7, 4), (0, 5), (1, 60), (0, 5), (1, 60), (0, 5), (1, 60), (0, 5), (1, 60), (0, 9), (1, 6), (1, 6), (1, 6), (1, 6), (1, 6), (1, 4), (1, 4), (1, 4), (1, 4), (1, 6), (1, 6), (1, 6), (1, 6), (1, 6), (1, 4), (1, 4), (1, 4), (1, 6), (1, 4), (1, 7), (1, 8), (1, 8), (1, 8), (1, 4), (1, 4), (1, 240), (1, 60)] := by show g_126.1 = _; exact s_126
theorem n_127 : gC g_127 = 64 ∧ gS g_127 = 856 := by unfold gC gS; rw [s_127]; exact ⟨rfl, rfl⟩
set_option maxRecDepth 4000 in
theorem C_Mo_init_1 : AMet y_Mo_init c_Mo_init 2 none 1 27 437 [vR 36] g_69 (fun o G' => o = none ∧ G' = g_127) := by
  refine AMet.of k_Mo_init (lo := [some (vR 36), none]) rfl (Nat.le_of_ble_eq_true rfl) (fun X hX hR hI0 => ?_)
  have hI := hI0 rfl
  refine v_aload_n (pc := 0) hX rfl d_Mo_init_0 ?_
  refine v_objInit (pc := 1) hX ml_Mo_1 rfl ⟨Nat.le_of_ble_eq_true rfl, Nat.le_of_ble_eq_true rfl⟩ (by decide) d_Mo_init_1 ?_
  refine v_aload_n (pc := 4) hX rfl d_Mo_init_4 ?_
  refine v_bipush (pc := 5) (v := 6) hX (by decide) d_Mo_init_5 ?_
  refine w_newarr (pc := 7) (r := 37) (N := 6) (G' := g_70) hX f_69 (by decide) (by decide) (by decide) (by rw [s_69]; rfl) ⟨by rw [n_69.1]; exact Nat.le_of_ble_eq_true rfl, by rw [n_69.2]; exact Nat.le_of_ble_eq_true rfl⟩ rfl d_Mo_init_7 ?_
  refine w_putF (pc := 9) (G' := g_71) hX hI fl_Mo_7 rfl (finF rfl rfl rfl) (by decide) (by rw [s_70]; rfl) (by decide) (fun _ => rfl) (fun _ => rfl) rfl d_Mo_init_9 ?_
  refine v_aload_n (pc := 12) hX rfl d_Mo_init_12 ?_
  refine v_bipush (pc := 13) (v := 6) hX (by decide) d_Mo_init_13 ?_
  refine w_newarr (pc := 15) (r := 38) (N := 6) (G' := g_72) hX f_71 (by decide) (by decide) (by decide) (by rw [s_71]; rfl) ⟨by rw [n_71.1]; exact Nat.le_of_ble_eq_true rfl, by rw [n_71.2]; exact Nat.le_of_ble_eq_true rfl⟩ rfl d_Mo_init_15 ?_
  refine w_putF (pc := 17) (G' := g_73) hX hI fl_Mo_13 rfl (finF rfl rfl rfl) (by decide) (by rw [s_72]; rfl) (by decide) (fun _ => rfl) (fun _ => rfl) rfl d_Mo_init_17 ?_
  refine v_aload_n (pc := 20) hX rfl d_Mo_init_20 ?_
  refine v_bipush (pc := 21) (v := 6) hX (by decide) d_Mo_init_21 ?_
  refine w_newarr (pc := 23) (r := 39) (N := 6) (G' := g_74) hX f_73 (by decide) (by decide) (by decide) (by rw [s_73]; rfl) ⟨by rw [n_73.1]; exact Nat.le_of_ble_eq_true rfl, by rw [n_73.2]; exact Nat.le_of_ble_eq_true rfl⟩ rfl d_Mo_init_23 ?_
  refine w_putF (pc := 25) (G' := g_75) hX hI fl_Mo_16 rfl (finF rfl rfl rfl) (by decide) (by rw [s_74]; rfl) (by decide) (fun _ => rfl) (fun _ => rfl) rfl d_Mo_init_25 ?_
  refine v_aload_n (pc := 28) hX rfl d_Mo_init_28 ?_
  refine v_bipush (pc := 29) (v := 6) hX (by decide) d_Mo_init_29 ?_
  refine w_newarr (pc := 31) (r := 40) (N := 6) (G' := g_76) hX f_75 (by decide) (by decide) (by decide) (by rw [s_75]; rfl) ⟨by rw [n_75.1]; exact Nat.le_of_ble_eq_true rfl, by rw [n_75.2]; exact Nat.le_of_ble_eq_true rfl⟩ rfl d_Mo_init_31 ?_
  refine w_putF (pc := 33) (G' := g_77) hX hI fl_Mo_19 rfl (finF rfl rfl rfl) (by decide) (by rw [s_76]; rfl) (by decide) (fun _ => rfl) (fun _ => rfl) rfl d_Mo_init_33 ?_
  refine v_aload_n (pc := 36) hX rfl d_Mo_init_36 ?_
  refine v_bipush (pc := 37) (v := 6) hX (by decide) d_Mo_init_37 ?_
  refine w_newarr (pc := 39) (r := 41) (N := 6) (G' := g_78) hX f_77 (by decide) (by decide) (by decide) (by rw [s_77]; rfl) ⟨by rw [n_77.1]; exact Nat.le_of_ble_eq_true rfl, by rw [n_77.2]; exact Nat.le_of_ble_eq_true rfl⟩ rfl d_Mo_init_39 ?_
  refine w_putF (pc := 41) (G' := g_79) hX hI fl_Mo_22 rfl (finF rfl rfl rfl) (by decide) (by rw [s_78]; rfl) (by decide) (fun _ => rfl) (fun _ => rfl) rfl d_Mo_init_41 ?_
  refine v_aload_n (pc := 44) hX rfl d_Mo_init_44 ?_
  refine v_iconst (pc := 45) (v := 4) hX (by decide) d_Mo_init_45 ?_
  refine w_newarr (pc := 46) (r := 42) (N := 4) (G' := g_80) hX f_79 (by decide) (by decide) (by decide) (by rw [s_79]; rfl) ⟨by rw [n_79.1]; exact Nat.le_of_ble_eq_true rfl, by rw [n_79.2]; exact Nat.le_of_ble_eq_true rfl⟩ rfl d_Mo_init_46 ?_
  refine w_putF (pc := 48) (G' := g_81) hX hI fl_Mo_25 rfl (finF rfl rfl rfl) (by decide) (by rw [s_80]; rfl) (by decide) (fun _ => rfl) (fun _ => rfl) rfl d_Mo_init_48 ?_
  refine v_aload_n (pc := 51) hX rfl d_Mo_init_51 ?_
  refine v_iconst (pc := 52) (v := 4) hX (by decide) d_Mo_init_52 ?_
  refine w_newarr (pc := 53) (r := 43) (N := 4) (G' := g_82) hX f_81 (by decide) (by decide) (by decide) (by rw [s_81]; rfl) ⟨by rw [n_81.1]; exact Nat.le_of_ble_eq_true rfl, by rw [n_81.2]; exact Nat.le_of_ble_eq_true rfl⟩ rfl d_Mo_init_53 ?_
  refine w_putF (pc := 55) (G' := g_83) hX hI fl_Mo_28 rfl (finF rfl rfl rfl) (by decide) (by rw [s_82]; rfl) (by decide) (fun _ => rfl) (fun _ => rfl) rfl d_Mo_init_55 ?_
  refine v_aload_n (pc := 58) hX rfl d_Mo_init_58 ?_
  refine v_iconst (pc := 59) (v := 4) hX (by decide) d_Mo_init_59 ?_
  refine w_newarr (pc := 60) (r := 44) (N := 4) (G' := g_84) hX f_83 (by decide) (by decide) (by decide) (by rw [s_83]; rfl) ⟨by rw [n_83.1]; exact Nat.le_of_ble_eq_true rfl, by rw [n_83.2]; exact Nat.le_of_ble_eq_true rfl⟩ rfl d_Mo_init_60 ?_
  refine w_putF (pc := 62) (G' := g_85) hX hI fl_Mo_31 rfl (finF rfl rfl rfl) (by decide) (by rw [s_84]; rfl) (by decide) (fun _ => rfl) (fun _ => rfl) rfl d_Mo_init_62 ?_
  refine v_aload_n (pc := 65) hX rfl d_Mo_init_65 ?_
  refine v_iconst (pc := 66) (v := 4) hX (by decide) d_Mo_init_66 ?_
  refine w_newarr (pc := 67) (r := 45) (N := 4) (G' := g_86) hX f_85 (by decide) (by decide) (by decide) (by rw [s_85]; rfl) ⟨by rw [n_85.1]; exact Nat.le_of_ble_eq_true rfl, by rw [n_85.2]; exact Nat.le_of_ble_eq_true rfl⟩ rfl d_Mo_init_67 ?_
  refine w_putF (pc := 69) (G' := g_87) hX hI fl_Mo_34 rfl (finF rfl rfl rfl) (by decide) (by rw [s_86]; rfl) (by decide) (fun _ => rfl) (fun _ => rfl) rfl d_Mo_init_69 ?_
  refine v_aload_n (pc := 72) hX rfl d_Mo_init_72 ?_
  refine v_bipush (pc := 73) (v := 6) hX (by decide) d_Mo_init_73 ?_
  refine w_newarr (pc := 75) (r := 46) (N := 6) (G' := g_88) hX f_87 (by decide) (by decide) (by decide) (by rw [s_87]; rfl) ⟨by rw [n_87.1]; exact Nat.le_of_ble_eq_true rfl, by rw [n_87.2]; exact Nat.le_of_ble_eq_true rfl⟩ rfl d_Mo_init_75 ?_
  refine w_putF (pc := 77) (G' := g_89) hX hI fl_Mo_37 rfl (finF rfl rfl rfl) (by decide) (by rw [s_88]; rfl) (by decide) (fun _ => rfl) (fun _ => rfl) rfl d_Mo_init_77 ?_
  refine v_aload_n (pc := 80) hX rfl d_Mo_init_80 ?_
  refine v_bipush (pc := 81) (v := 6) hX (by decide) d_Mo_init_81 ?_
  refine w_newarr (pc := 83) (r := 47) (N := 6) (G' := g_90) hX f_89 (by decide) (by decide) (by decide) (by rw [s_89]; rfl) ⟨by rw [n_89.1]; exact Nat.le_of_ble_eq_true rfl, by rw [n_89.2]; exact Nat.le_of_ble_eq_true rfl⟩ rfl d_Mo_init_83 ?_
  refine w_putF (pc := 85) (G' := g_91) hX hI fl_Mo_40 rfl (finF rfl rfl rfl) (by decide) (by rw [s_90]; rfl) (by decide) (fun _ => rfl) (fun _ => rfl) rfl d_Mo_init_85 ?_
  refine v_aload_n (pc := 88) hX rfl d_Mo_init_88 ?_
  refine v_bipush (pc := 89) (v := 6) hX (by decide) d_Mo_init_89 ?_
  refine w_newarr (pc := 91) (r := 48) (N := 6) (G' := g_92) hX f_91 (by decide) (by decide) (by decide) (by rw [s_91]; rfl) ⟨by rw [n_91.1]; exact Nat.le_of_ble_eq_true rfl, by rw [n_91.2]; exact Nat.le_of_ble_eq_true rfl⟩ rfl d_Mo_init_91 ?_
  refine w_putF (pc := 93) (G' := g_93) hX hI fl_Mo_43 rfl (finF rfl rfl rfl) (by decide) (by rw [s_92]; rfl) (by decide) (fun _ => rfl) (fun _ => rfl) rfl d_Mo_init_93 ?_
  refine v_aload_n (pc := 96) hX rfl d_Mo_init_96 ?_
  refine v_bipush (pc := 97) (v := 6) hX (by decide) d_Mo_init_97 ?_
  refine w_newarr (pc := 99) (r := 49) (N := 6) (G' := g_94) hX f_93 (by decide) (by decide) (by decide) (by rw [s_93]; rfl) ⟨by rw [n_93.1]; exact Nat.le_of_ble_eq_true rfl, by rw [n_93.2]; exact Nat.le_of_ble_eq_true rfl⟩ rfl d_Mo_init_99 ?_
  refine w_putF (pc := 101) (G' := g_95) hX hI fl_Mo_46 rfl (finF rfl rfl rfl) (by decide) (by rw [s_94]; rfl) (by decide) (fun _ => rfl) (fun _ => rfl) rfl d_Mo_init_101 ?_
  refine v_aload_n (pc := 104) hX rfl d_Mo_init_104 ?_
  refine v_bipush (pc := 105) (v := 6) hX (by decide) d_Mo_init_105 ?_
  refine w_newarr (pc := 107) (r := 50) (N := 6) (G' := g_96) hX f_95 (by decide) (by decide) (by decide) (by rw [s_95]; rfl) ⟨by rw [n_95.1]; exact Nat.le_of_ble_eq_true rfl, by rw [n_95.2]; exact Nat.le_of_ble_eq_true rfl⟩ rfl d_Mo_init_107 ?_
  refine w_putF (pc := 109) (G' := g_97) hX hI fl_Mo_49 rfl (finF rfl rfl rfl) (by decide) (by rw [s_96]; rfl) (by decide) (fun _ => rfl) (fun _ => rfl) rfl d_Mo_init_109 ?_
  refine v_aload_n (pc := 112) hX rfl d_Mo_init_112 ?_
  refine v_iconst (pc := 113) (v := 4) hX (by decide) d_Mo_init_113 ?_
  refine w_newarr (pc := 114) (r := 51) (N := 4) (G' := g_98) hX f_97 (by decide) (by decide) (by decide) (by rw [s_97]; rfl) ⟨by rw [n_97.1]; exact Nat.le_of_ble_eq_true rfl, by rw [n_97.2]; exact Nat.le_of_ble_eq_true rfl⟩ rfl d_Mo_init_114 ?_
  refine w_putF (pc := 116) (G' := g_99) hX hI fl_Mo_52 rfl (finF rfl rfl rfl) (by decide) (by rw [s_98]; rfl) (by decide) (fun _ => rfl) (fun _ => rfl) rfl d_Mo_init_116 ?_
  refine v_aload_n (pc := 119) hX rfl d_Mo_init_119 ?_
  refine v_iconst (pc := 120) (v := 4) hX (by decide) d_Mo_init_120 ?_
  refine w_newarr (pc := 121) (r := 52) (N := 4) (G' := g_100) hX f_99 (by decide) (by decide) (by decide) (by rw [s_99]; rfl) ⟨by rw [n_99.1]; exact Nat.le_of_ble_eq_true rfl, by rw [n_99.2]; exact Nat.le_of_ble_eq_true rfl⟩ rfl d_Mo_init_121 ?_
  refine w_putF (pc := 123) (G' := g_101) hX hI fl_Mo_55 rfl (finF rfl rfl rfl) (by decide) (by rw [s_100]; rfl) (by decide) (fun _ => rfl) (fun _ => rfl) rfl d_Mo_init_123 ?_
  refine v_aload_n (pc := 126) hX rfl d_Mo_init_126 ?_
  refine v_iconst (pc := 127) (v := 4) hX (by decide) d_Mo_init_127 ?_
  refine w_newarr (pc := 128) (r := 53) (N := 4) (G' := g_102) hX f_101 (by decide) (by decide) (by decide) (by rw [s_101]; rfl) ⟨by rw [n_101.1]; exact Nat.le_of_ble_eq_true rfl, by rw [n_101.2]; exact Nat.le_of_ble_eq_true rfl⟩ rfl d_Mo_init_128 ?_
  refine w_putF (pc := 130) (G' := g_103) hX hI fl_Mo_58 rfl (finF rfl rfl rfl) (by decide) (by rw [s_102]; rfl) (by decide) (fun _ => rfl) (fun _ => rfl) rfl d_Mo_init_130 ?_
  refine v_aload_n (pc := 133) hX rfl d_Mo_init_133 ?_
  refine v_bipush (pc := 134) (v := 6) hX (by decide) d_Mo_init_134 ?_
  refine w_newarr (pc := 136) (r := 54) (N := 6) (G' := g_104) hX f_103 (by decide) (by decide) (by decide) (by rw [s_103]; rfl) ⟨by rw [n_103.1]; exact Nat.le_of_ble_eq_true rfl, by rw [n_103.2]; exact Nat.le_of_ble_eq_true rfl⟩ rfl d_Mo_init_136 ?_
  refine w_putF (pc := 138) (G' := g_105) hX hI fl_Mo_61 rfl (finF rfl rfl rfl) (by decide) (by rw [s_104]; rfl) (by decide) (fun _ => rfl) (fun _ => rfl) rfl d_Mo_init_138 ?_
  refine v_aload_n (pc := 141) hX rfl d_Mo_init_141 ?_
  refine v_iconst (pc := 142) (v := 4) hX (by decide) d_Mo_init_142 ?_
  refine w_newarr (pc := 143) (r := 55) (N := 4) (G' := g_106) hX f_105 (by decide) (by decide) (by decide) (by rw [s_105]; rfl) ⟨by rw [n_105.1]; exact Nat.le_of_ble_eq_true rfl, by rw [n_105.2]; exact Nat.le_of_ble_eq_true rfl⟩ rfl d_Mo_init_143 ?_
  refine w_putF (pc := 145) (G' := g_107) hX hI fl_Mo_64 rfl (finF rfl rfl rfl) (by decide) (by rw [s_106]; rfl) (by decide) (fun _ => rfl) (fun _ => rfl) rfl d_Mo_init_145 ?_
  refine v_aload_n (pc := 148) hX rfl d_Mo_init_148 ?_
  refine v_bipush (pc := 149) (v := 7) hX (by decide) d_Mo_init_149 ?_
  refine w_newarr (pc := 151) (r := 56) (N := 7) (G' := g_108) hX f_107 (by decide) (by decide) (by decide) (by rw [s_107]; rfl) ⟨by rw [n_107.1]; exact Nat.le_of_ble_eq_true rfl, by rw [n_107.2]; exact Nat.le_of_ble_eq_true rfl⟩ rfl d_Mo_init_151 ?_
  refine w_putF (pc := 153) (G' := g_109) hX hI fl_Mo_67 rfl (finF rfl rfl rfl) (by decide) (by rw [s_108]; rfl) (by decide) (fun _ => rfl) (fun _ => rfl) rfl d_Mo_init_153 ?_
  refine v_aload_n (pc := 156) hX rfl d_Mo_init_156 ?_
  refine v_bipush (pc := 157) (v := 8) hX (by decide) d_Mo_init_157 ?_
  refine w_newarr (pc := 159) (r := 57) (N := 8) (G' := g_110) hX f_109 (by decide) (by decide) (by decide) (by rw [s_109]; rfl) ⟨by rw [n_109.1]; exact Nat.le_of_ble_eq_true rfl, by rw [n_109.2]; exact Nat.le_of_ble_eq_true rfl⟩ rfl d_Mo_init_159 ?_
  refine w_putF (pc := 161) (G' := g_111) hX hI fl_Mo_70 rfl (finF rfl rfl rfl) (by decide) (by rw [s_110]; rfl) (by decide) (fun _ => rfl) (fun _ => rfl) rfl d_Mo_init_161 ?_
  refine v_aload_n (pc := 164) hX rfl d_Mo_init_164 ?_
  refine v_bipush (pc := 165) (v := 8) hX (by decide) d_Mo_init_165 ?_
  refine w_newarr (pc := 167) (r := 58) (N := 8) (G' := g_112) hX f_111 (by decide) (by decide) (by decide) (by rw [s_111]; rfl) ⟨by rw [n_111.1]; exact Nat.le_of_ble_eq_true rfl, by rw [n_111.2]; exact Nat.le_of_ble_eq_true rfl⟩ rfl d_Mo_init_167 ?_
  refine w_putF (pc := 169) (G' := g_113) hX hI fl_Mo_73 rfl (finF rfl rfl rfl) (by decide) (by rw [s_112]; rfl) (by decide) (fun _ => rfl) (fun _ => rfl) rfl d_Mo_init_169 ?_
  refine v_aload_n (pc := 172) hX rfl d_Mo_init_172 ?_
  refine v_bipush (pc := 173) (v := 8) hX (by decide) d_Mo_init_173 ?_
  refine w_newarr (pc := 175) (r := 59) (N := 8) (G' := g_114) hX f_113 (by decide) (by decide) (by decide) (by rw [s_113]; rfl) ⟨by rw [n_113.1]; exact Nat.le_of_ble_eq_true rfl, by rw [n_113.2]; exact Nat.le_of_ble_eq_true rfl⟩ rfl d_Mo_init_175 ?_
  refine w_putF (pc := 177) (G' := g_115) hX hI fl_Mo_76 rfl (finF rfl rfl rfl) (by decide) (by rw [s_114]; rfl) (by decide) (fun _ => rfl) (fun _ => rfl) rfl d_Mo_init_177 ?_
  refine v_aload_n (pc := 180) hX rfl d_Mo_init_180 ?_
  refine v_iconst (pc := 181) (v := 4) hX (by decide) d_Mo_init_181 ?_
  refine w_newarr (pc := 182) (r := 60) (N := 4) (G' := g_116) hX f_115 (by decide) (by decide) (by decide) (by rw [s_115]; rfl) ⟨by rw [n_115.1]; exact Nat.le_of_ble_eq_true rfl, by rw [n_115.2]; exact Nat.le_of_ble_eq_true rfl⟩ rfl d_Mo_init_182 ?_
  refine w_putF (pc := 184) (G' := g_117) hX hI fl_Mo_79 rfl (finF rfl rfl rfl) (by decide) (by rw [s_116]; rfl) (by decide) (fun _ => rfl) (fun _ => rfl) rfl d_Mo_init_184 ?_
  refine v_aload_n (pc := 187) hX rfl d_Mo_init_187 ?_
  refine v_iconst (pc := 188) (v := 4) hX (by decide) d_Mo_init_188 ?_
  refine w_newarr (pc := 189) (r := 61) (N := 4) (G' := g_118) hX f_117 (by decide) (by decide) (by decide) (by rw [s_117]; rfl) ⟨by rw [n_117.1]; exact Nat.le_of_ble_eq_true rfl, by rw [n_117.2]; exact Nat.le_of_ble_eq_true rfl⟩ rfl d_Mo_init_189 ?_
  refine w_putF (pc := 191) (G' := g_119) hX hI fl_Mo_82 rfl (finF rfl rfl rfl) (by decide) (by rw [s_118]; rfl) (by decide) (fun _ => rfl) (fun _ => rfl) rfl d_Mo_init_191 ?_
  refine v_aload_n (pc := 194) hX rfl d_Mo_init_194 ?_
  refine v_sipush (pc := 195) (v := 240) hX (by decide) d_Mo_init_195 ?_
  refine w_newarr (pc := 198) (r := 62) (N := 240) (G' := g_120) hX f_119 (by decide) (by decide) (by decide) (by rw [s_119]; rfl) ⟨by rw [n_119.1]; exact Nat.le_of_ble_eq_true rfl, by rw [n_119.2]; exact Nat.le_of_ble_eq_true rfl⟩ rfl d_Mo_init_198 ?_
  refine w_putF (pc := 200) (G' := g_121) hX hI fl_Mo_85 rfl (finF rfl rfl rfl) (by decide) (by rw [s_120]; rfl) (by decide) (fun _ => rfl) (fun _ => rfl) rfl d_Mo_init_200 ?_
  refine v_aload_n (pc := 203) hX rfl d_Mo_init_203 ?_
  refine v_bipush (pc := 204) (v := 60) hX (by decide) d_Mo_init_204 ?_
  refine w_newarr (pc := 206) (r := 63) (N := 60) (G' := g_122) hX f_121 (by decide) (by decide) (by decide) (by rw [s_121]; rfl) ⟨by rw [n_121.1]; exact Nat.le_of_ble_eq_true rfl, by rw [n_121.2]; exact Nat.le_of_ble_eq_true rfl⟩ rfl d_Mo_init_206 ?_
  refine w_putF (pc := 208) (G' := g_123) hX hI fl_Mo_88 rfl (finF rfl rfl rfl) (by decide) (by rw [s_122]; rfl) (by decide) (fun _ => rfl) (fun _ => rfl) rfl d_Mo_init_208 ?_
  refine v_iconst (pc := 211) (v := 0) hX (by decide) d_Mo_init_211 ?_
  refine v_istore_n (pc := 212) (lo' := [some (vR 36), some (vI (0))]) hX (by decide) rfl d_Mo_init_212 ?_
  refine v_iload_n (pc := 213) hX rfl d_Mo_init_213 ?_
  refine v_iconst (pc := 214) (v := 4) hX (by decide) d_Mo_init_214 ?_
  refine v_icmp_ge (pc := 215) (tgt := 231) hX d_Mo_init_215 rfl (fun hc => absurd hc (by decide)) (fun _ => ?_)
  refine v_aload_n (pc := 218) hX rfl d_Mo_init_218 ?_
  refine w_getR (pc := 219) (v := 60) hX fl_Mo_79 rfl (by decide) (by rw [s_123]; rfl) rfl d_Mo_init_219 ?_
  refine v_iload_n (pc := 222) hX rfl d_Mo_init_222 ?_
  refine v_iconst (pc := 223) (v := -1) hX (by decide) d_Mo_init_223 ?_
  refine w_iast (pc := 224) (n := 4) (j := 0) (G' := g_124) hX (by decide) (by rw [s_123]; rfl) (by unfold vp_in; decide) (by decide) rfl d_Mo_init_224 ?_
  refine v_iinc (pc := 225) (lo' := [some (vR 36), some (vI (1))]) hX rfl rfl d_Mo_init_225 ?_
  refine v_goto (pc := 228) (tgt := 213) hX d_Mo_init_228 rfl ?_
  refine v_iload_n (pc := 213) hX rfl d_Mo_init_213 ?_
  refine v_iconst (pc := 214) (v := 4) hX (by decide) d_Mo_init_214 ?_
  refine v_icmp_ge (pc := 215) (tgt := 231) hX d_Mo_init_215 rfl (fun hc => absurd hc (by decide)) (fun _ => ?_)
  refine v_aload_n (pc := 218) hX rfl d_Mo_init_218 ?_
  refine w_getR (pc := 219) (v := 60) hX fl_Mo_79 rfl (by decide) (by rw [s_124]; rfl) rfl d_Mo_init_219 ?_
  refine v_iload_n (pc := 222) hX rfl d_Mo_init_222 ?_
  refine v_iconst (pc := 223) (v := -1) hX (by decide) d_Mo_init_223 ?_
  refine w_iast (pc := 224) (n := 4) (j := 1) (G' := g_125) hX (by decide) (by rw [s_124]; rfl) (by unfold vp_in; decide) (by decide) rfl d_Mo_init_224 ?_
  refine v_iinc (pc := 225) (lo' := [some (vR 36), some (vI (2))]) hX rfl rfl d_Mo_init_225 ?_
  refine v_goto (pc := 228) (tgt := 213) hX d_Mo_init_228 rfl ?_
  refine v_iload_n (pc := 213) hX rfl d_Mo_init_213 ?_
  refine v_iconst (pc := 214) (v := 4) hX (by decide) d_Mo_init_214 ?_
  refine v_icmp_ge (pc := 215) (tgt := 231) hX d_Mo_init_215 rfl (fun hc => absurd hc (by decide)) (fun _ => ?_)
  refine v_aload_n (pc := 218) hX rfl d_Mo_init_218 ?_
  refine w_getR (pc := 219) (v := 60) hX fl_Mo_79 rfl (by decide) (by rw [s_125]; rfl) rfl d_Mo_init_219 ?_
  refine v_iload_n (pc := 222) hX rfl d_Mo_init_222 ?_
  refine v_iconst (pc := 223) (v := -1) hX (by decide) d_Mo_init_223 ?_
  refine w_iast (pc := 224) (n := 4) (j := 2) (G' := g_126) hX (by decide) (by rw [s_125]; rfl) (by unfold vp_in; decide) (by decide) rfl d_Mo_init_224 ?_
  refine v_iinc (pc := 225) (lo' := [some (vR 36), some (vI (3))]) hX rfl rfl d_Mo_init_225 ?_
  refine v_goto (pc := 228) (tgt := 213) hX d_Mo_init_228 rfl ?_
  refine v_iload_n (pc := 213) hX rfl d_Mo_init_213 ?_
  refine v_iconst (pc := 214) (v := 4) hX (by decide) d_Mo_init_214 ?_
  refine v_icmp_ge (pc := 215) (tgt := 231) hX d_Mo_init_215 rfl (fun hc => absurd hc (by decide)) (fun _ => ?_)
  refine v_aload_n (pc := 218) hX rfl d_Mo_init_218 ?_
  refine w_getR (pc := 219) (v := 60) hX fl_Mo_79 rfl (by decide) (by rw [s_126]; rfl) rfl d_Mo_init_219 ?_
  refine v_iload_n (pc := 222) hX rfl d_Mo_init_222 ?_
  refine v_iconst (pc := 223) (v := -1) hX (by decide) d_Mo_init_223 ?_
  refine w_iast (pc := 224) (n := 4) (j := 3) (G' := g_127) hX (by decide) (by rw [s_126]; rfl) (by unfold vp_in; decide) (by decide) rfl d_Mo_init_224 ?_
  refine v_iinc (pc := 225) (lo' := [some (vR 36), some (vI (4))]) hX rfl rfl d_Mo_init_225 ?_
  refine v_goto (pc := 228) (tgt := 213) hX d_Mo_init_228 rfl ?_
  refine v_iload_n (pc := 213) hX rfl d_Mo_init_213 ?_
  refine v_iconst (pc := 214) (v := 4) hX (by decide) d_Mo_init_214 ?_
  refine v_icmp_ge (pc := 215) (tgt := 231) hX d_Mo_init_215 rfl (fun _ => ?_) (fun hc => absurd (by decide) hc)
  exact v_vret (pc := 231) hX hR (by rw [n_127.1, n_69.1]) (by rw [n_127.2, n_69.2]) ⟨rfl, rfl⟩ d_Mo_init_231
-- the heap behind both constructors
def SH : List (Nat × Nat) := [(1, 0), (1, 0), (0, 8), (0, 6), (3, 6), (2, 4), (0, 1), (0, 1), (0, 1), (0, 1), (0, 1), (0, 1), (0, 0), (0, 0), (0, 0), (0, 0), (0, 3), (1, 6), (1, 4), (0, 4), (1, 6), (1, 4), (0, 2), (1, 8), (1, 8), (1, 8), (0, 7), (7, 4), (0, 5), (1, 60), (0, 5), (1, 60), (0, 5), (1, 60), (0, 5), (1, 60), (0, 9), (1, 6), (1, 6), (1, 6), (1, 6), (1, 6), (1, 4), (1, 4), (1, 4), (1, 4), (1, 6), (1, 6), (1, 6), (1, 6), (1, 6), (1, 4), (1, 4), (1, 4), (1, 6), (1, 4), (1, 7), (1, 8), (1, 8), (1, 8), (1, 4), (1, 4), (1, 240), (1, 60)]
def NF : NN := g_127.2.1
def M0 : MM := g_127.2.2
abbrev gM (M : MM) : GG := (SH, NF, M)
theorem g_end : g_127 = gM M0 := by rw [show g_127 = (g_127.1, g_127.2.1, g_127.2.2) from rfl, s_127]; rfl
theorem nf_2_0 : NF 2 0 = 3 := by decide +kernel
theorem nf_2_1 : NF 2 1 = 16 := by decide +kernel
theorem nf_2_2 : NF 2 2 = 19 := by decide +kernel
theorem nf_2_3 : NF 2 3 = 22 := by decide +kernel
theorem nf_2_4 : NF 2 4 = 26 := by decide +kernel
theorem nf_2_5 : NF 2 5 = 27 := by decide +kernel
theorem nf_3_0 : NF 3 0 = 4 := by decide +kernel
theorem nf_3_1 : NF 3 1 = 5 := by decide +kernel
theorem nf_4_0 : NF 4 0 = 6 := by decide +kernel
theorem nf_4_1 : NF 4 1 = 7 := by decide +kernel
theorem nf_4_2 : NF 4 2 = 8 := by decide +kernel
theorem nf_4_3 : NF 4 3 = 9 := by decide +kernel
theorem nf_4_4 : NF 4 4 = 10 := by decide +kernel
theorem nf_4_5 : NF 4 5 = 11 := by decide +kernel
theorem nf_5_0 : NF 5 0 = 12 := by decide +kernel
theorem nf_5_1 : NF 5 1 = 13 := by decide +kernel
theorem nf_5_2 : NF 5 2 = 14 := by decide +kernel
theorem nf_5_3 : NF 5 3 = 15 := by decide +kernel
theorem nf_16_0 : NF 16 0 = 17 := by decide +kernel
theorem nf_16_1 : NF 16 1 = 18 := by decide +kernel
theorem nf_19_0 : NF 19 0 = 20 := by decide +kernel
theorem nf_19_1 : NF 19 1 = 21 := by decide +kernel
theorem nf_22_0 : NF 22 0 = 23 := by decide +kernel
theorem nf_22_1 : NF 22 1 = 24 := by decide +kernel
theorem nf_22_2 : NF 22 2 = 25 := by decide +kernel
theorem nf_27_0 : NF 27 0 = 28 := by decide +kernel
theorem nf_27_1 : NF 27 1 = 30 := by decide +kernel
theorem nf_27_2 : NF 27 2 = 32 := by decide +kernel
theorem nf_27_3 : NF 27 3 = 34 := by decide +kernel
theorem nf_28_0 : NF 28 0 = 29 := by decide +kernel
theorem nf_30_0 : NF 30 0 = 31 := by decide +kernel
theorem nf_32_0 : NF 32 0 = 33 := by decide +kernel
theorem nf_34_0 : NF 34 0 = 35 := by decide +kernel
theorem nf_36_2 : NF 36 2 = 37 := by decide +kernel
theorem nf_36_3 : NF 36 3 = 38 := by decide +kernel
theorem nf_36_4 : NF 36 4 = 39 := by decide +kernel
theorem nf_36_5 : NF 36 5 = 40 := by decide +kernel
theorem nf_36_6 : NF 36 6 = 41 := by decide +kernel
theorem nf_36_8 : NF 36 8 = 42 := by decide +kernel
theorem nf_36_9 : NF 36 9 = 43 := by decide +kernel
theorem nf_36_10 : NF 36 10 = 44 := by decide +kernel
theorem nf_36_11 : NF 36 11 = 45 := by decide +kernel
theorem nf_36_15 : NF 36 15 = 46 := by decide +kernel
theorem nf_36_16 : NF 36 16 = 47 := by decide +kernel
theorem nf_36_17 : NF 36 17 = 48 := by decide +kernel
theorem nf_36_18 : NF 36 18 = 49 := by decide +kernel
theorem nf_36_19 : NF 36 19 = 50 := by decide +kernel
theorem nf_36_20 : NF 36 20 = 51 := by decide +kernel
theorem nf_36_21 : NF 36 21 = 52 := by decide +kernel
theorem nf_36_22 : NF 36 22 = 53 := by decide +kernel
theorem nf_36_23 : NF 36 23 = 54 := by decide +kernel
theorem nf_36_24 : NF 36 24 = 55 := by decide +kernel
theorem nf_36_25 : NF 36 25 = 56 := by decide +kernel
theorem nf_36_28 : NF 36 28 = 57 := by decide +kernel
theorem nf_36_29 : NF 36 29 = 58 := by decide +kernel
theorem nf_36_30 : NF 36 30 = 59 := by decide +kernel
theorem nf_36_31 : NF 36 31 = 60 := by decide +kernel
theorem nf_36_32 : NF 36 32 = 61 := by decide +kernel
theorem nf_36_33 : NF 36 33 = 62 := by decide +kernel
theorem nf_36_34 : NF 36 34 = 63 := by decide +kernel
end
section
/-! The rows over the one heap behind the constructors (its shape and its references stay), contracts that name answer and heap. -/
def SZ : Nat := (SH.map shS).sum
abbrev CM (X : CX) (own : String) (cc : ByteArray) (nL d : Nat) : Prop := CO X own cc nL d 0 0 SH.length SZ
def AF (y : MethodName) (cc : ByteArray) (nL : Nat) (ret : Option FieldType) (d : Nat) (as : List AV) (M : MM) (o : Option AV) (M1 : MM) : Prop := AMet y cc nL ret d 0 0 as (gM M) (fun r G' => r = o ∧ G' = gM M1)
abbrev RF (X : CX) (ret : Option FieldType) (o : Option AV) (M1 : MM) : Prop := RT X ret 0 0 (fun r G' => r = o ∧ G' = gM M1)
theorem AF.of {y : MethodName} {cc : ByteArray} {nL : Nat} {ret : Option FieldType} {n d : Nat} {as : List AV} {M M1 : MM} {o : Option AV} (hk : YI y cc nL ret n) {lo : List (Option AV)} (hlo : ent as ++ List.replicate (nL - (ent as).length) none = lo) (hle : (ent as).length ≤ nL)
    (body : ∀ X : CX, CM X y.cls cc nL d → RF X ret o M1 → VW X 0 lo [] (gM M)) : AF y cc nL ret d as M o M1 :=
  AMet.of hk hlo hle (fun X hX hR _ => body X hX hR)
def bI (b : Bool) : Int32 := if b = true then 1 else 0
theorem narrow_bI (b : Bool) : narrow .boolean (.int (bI b)) = .int (bI b) := by cases b <;> rfl
abbrev i3 (k : Nat) : Int32 := Int32.ofNat k
/-- i is place j of a row of n -/
def IX (i : Int32) (j n : Nat) : Prop := i.toNatClampNeg = j ∧ ¬ i < 0 ∧ j < n
theorem IX.vp {i : Int32} {j n : Nat} (h : IX i j n) : vp_in i n := fun q => by
  obtain ⟨h1, h2, h3⟩ := h
  rcases q with q | q
  · exact h2 q
  · omega
theorem IX.mono {i : Int32} {j n n' : Nat} (h : IX i j n) (hn : n ≤ n') : IX i j n' := ⟨h.1, h.2.1, Nat.lt_of_lt_of_le h.2.2 hn⟩
theorem i3_int {k : Nat} (h : k < 2147483648) : (i3 k).toInt = (k : Int) := Int32.toInt_ofNat_of_lt h
theorem i3_lt {a b : Nat} (ha : a < 2147483648) (hb : b < 2147483648) : (i3 a < i3 b) ↔ a < b := by
  rw [Int32.lt_iff_toInt_lt, i3_int ha, i3_int hb]; omega
theorem i3_le {a b : Nat} (ha : a < 2147483648) (hb : b < 2147483648) : (i3 a ≤ i3 b) ↔ a ≤ b := by
  rw [Int32.le_iff_toInt_le, i3_int ha, i3_int hb]; omega
theorem i3_inj {a b : Nat} (ha : a < 2147483648) (hb : b < 2147483648) : (i3 a = i3 b) ↔ a = b := by
  constructor
  · intro h
    have h := congrArg Int32.toInt h
    rw [i3_int ha, i3_int hb] at h
    omega
  · intro h; rw [h]
theorem i3_succ (k : Nat) : i3 (k + 1) = i3 k + 1 := Int32.ofNat_add k 1
theorem i3_add (a b : Nat) : i3 (a + b) = i3 a + i3 b := Int32.ofNat_add a b
theorem i3_mul (a b : Nat) : i3 (a * b) = i3 a * i3 b := Int32.ofNat_mul a b
theorem IX.of {k n : Nat} (h : k < n) (hn : n ≤ 1000) : IX (i3 k) k n := by
  have hk := i3_int (k := k) (by omega)
  refine ⟨?_, ?_, h⟩
  · show (i3 k).toInt.toNat = k
    rw [hk]; rfl
  · intro q
    have q := Int32.lt_iff_toInt_lt.mp q
    rw [hk, show (0 : Int32).toInt = 0 from rfl] at q
    omega
theorem sh_two {r ci : Nat} (hs : SH[r]? = some (0, ci)) : 2 ≤ r := by
  match r, hs with
  | 0, hs => cases hs
  | 1, hs => cases hs
  | r + 2, _ => omega
theorem sh_two' {r n : Nat} (hs : SH[r]? = some (1, n)) (hn : n ≠ 0) : 2 ≤ r := by
  match r, hs with
  | 0, hs => cases hs; exact absurd rfl hn
  | 1, hs => cases hs; exact absurd rfl hn
  | r + 2, _ => omega
def fgl : List Bool → List (Option AV) → List (Option AV)
  | true :: m, x :: l => x :: fgl m l
  | false :: m, _ :: l => none :: fgl m l
  | [], l => l
  | _ :: _, [] => []
theorem fgl_len : ∀ (m : List Bool) (l : List (Option AV)), (fgl m l).length = l.length
  | true :: m, x :: l => by simp [fgl, fgl_len m l]
  | false :: m, x :: l => by simp [fgl, fgl_len m l]
  | [], l => by simp [fgl]
  | true :: _, [] => rfl
  | false :: _, [] => rfl
theorem fgl_at : ∀ (m : List Bool) (l : List (Option AV)) (k : Nat) (v : AV), (fgl m l)[k]? = some (some v) → l[k]? = some (some v)
  | true :: m, x :: l, 0, v, h => h
  | true :: m, x :: l, k + 1, v, h => fgl_at m l k v h
  | false :: m, x :: l, 0, v, h => by cases h
  | false :: m, x :: l, k + 1, v, h => fgl_at m l k v h
  | [], l, k, v, h => by simpa [fgl] using h
  | true :: _, [], k, v, h => h
  | false :: _, [], k, v, h => h
/-- locals forgotten -/
theorem VW.fg {X : CX} {pc : Nat} {lo : List (Option AV)} {st : List AV} {G : GG} (m : List Bool) (k : VW X pc (fgl m lo) st G) : VW X pc lo st G := VW.less (fgl_len m lo) (fgl_at m lo) k
section GMR
variable {X : CX} {own : String} {cc : ByteArray} {nL d : Nat} {pc : Nat} {lo : List (Option AV)} {st : List AV} {M M1 : MM}
theorem g_getI (hX : CM X own cc nL d) {idx ci k r : Nat} (hf : FL own idx ci k) (ht : rsT ci k = false) (hs : SH[r]? = some (0, ci)) (hd : decode cc pc = .ok (.getfield idx, 3)) (kk : VW X (pc + 3) lo (vI (M r k) :: st) (gM M)) : VW X pc lo (vR r :: st) (gM M) :=
  v_getI hX hf ht (sh_two hs) hs hd kk
theorem g_getR (hX : CM X own cc nL d) {idx ci k r v : Nat} (hf : FL own idx ci k) (ht : rsT ci k = true) (hs : SH[r]? = some (0, ci)) (hv : NF r k = v) (hd : decode cc pc = .ok (.getfield idx, 3)) (kk : VW X (pc + 3) lo (vR v :: st) (gM M)) : VW X pc lo (vR r :: st) (gM M) :=
  w_getR hX hf ht (sh_two hs) hs hv hd kk
theorem g_putI (hX : CM X own cc nL d) {idx ci k r : Nat} {x : Int32} (hf : FL own idx ci k) (ht : rsT ci k = false) (hfin : ∀ q : vw_C, CL[ci]? = some q → (q.2.1 k).2.2.2 = false) (hs : SH[r]? = some (0, ci)) (hn : narrow (tyF ci k) (.int x) = .int x) (hfit : fits (tyF ci k) (.int x) = true) (hd : decode cc pc = .ok (.putfield idx, 3)) (kk : VW X (pc + 3) lo st (gM (upM M r k x))) : VW X pc lo (vI x :: vR r :: st) (gM M) :=
  v_putI hX hf ht hfin (sh_two hs) hs hn hfit hd kk
theorem g_iald (hX : CM X own cc nL d) {r n j : Nat} {i : Int32} (hs : SH[r]? = some (1, n)) (hi : IX i j n) (hd : decode cc pc = .ok (.iaload, 1)) (kk : VW X (pc + 1) lo (vI (M r j) :: st) (gM M)) : VW X pc lo (vI i :: vR r :: st) (gM M) := by
  refine v_iald hX (sh_two' hs (fun e => by have := hi.2.2; omega)) hs hi.vp hd ?_
  rw [hi.1]
  exact kk
theorem g_iast (hX : CM X own cc nL d) {r n j : Nat} {i x : Int32} (hs : SH[r]? = some (1, n)) (hi : IX i j n) (hd : decode cc pc = .ok (.iastore, 1)) (kk : VW X (pc + 1) lo st (gM (upM M r j x))) : VW X pc lo (vI x :: vI i :: vR r :: st) (gM M) := by
  refine v_iast hX (sh_two' hs (fun e => by have := hi.2.2; omega)) hs hi.vp hd ?_
  rw [hi.1]
  exact kk
theorem g_aald (hX : CM X own cc nL d) {r c n j v : Nat} {i : Int32} (hcc : c = 0 ∨ c = 1 ∨ c = 5) (h2 : 2 ≤ r) (hs : SH[r]? = some (c + 2, n)) (hi : IX i j n) (hv : NF r j = v) (hd : decode cc pc = .ok (.aaload, 1)) (kk : VW X (pc + 1) lo (vR v :: st) (gM M)) : VW X pc lo (vI i :: vR r :: st) (gM M) := by
  refine v_aald hX hcc h2 hs hi.vp hd ?_
  rw [hi.1]
  subst hv
  exact kk
theorem g_alen (hX : CM X own cc nL d) {r n : Nat} {v : Int32} (hs : SH[r]? = some (1, n)) (hn : n ≠ 0) (hv : Int32.ofNat n = v) (hd : decode cc pc = .ok (.arraylength, 1)) (kk : VW X (pc + 1) lo (vI v :: st) (gM M)) : VW X pc lo (vR r :: st) (gM M) :=
  v_alen hX (sh_two' hs hn) hs hv hd kk
theorem g_max (hX : CM X own cc nL d) {idx : Nat} {x y : Int32} (hl : Cond.methodLink own idx Lib.Math.max.name ∈ GW) (hlo : lo.length = nL) (hrm : 1 ≤ d) (hc : (st.map catA).sum ≤ 8) (hd : decode cc pc = .ok (.invokestatic idx, 3)) (kk : VW X (pc + 3) lo (vI (if x < y then y else x) :: st) (gM M)) : VW X pc lo (vI y :: vI x :: st) (gM M) :=
  v_max hX hl hlo ⟨hrm, hc, Nat.le_refl _, Nat.le_refl _⟩ hd kk
theorem f_iret (hX : CM X own cc nL d) {v v' : Int32} (hR : RF X (some .int) (some (vI v')) M1) (hv : v = v') (hM : M = M1) (hd : decode cc pc = .ok (.ireturn, 1)) : VW X pc lo [vI v] (gM M) :=
  v_iret hX hR rfl rfl ⟨by rw [hv], by rw [hM]⟩ hd
theorem f_zret (hX : CM X own cc nL d) {v : Int32} {b : Bool} (hR : RF X (some .boolean) (some (vI (bI b))) M1) (hv : v = bI b) (hM : M = M1) (hd : decode cc pc = .ok (.ireturn, 1)) : VW X pc lo [vI v] (gM M) := by
  subst hv
  exact v_zret hX hR (narrow_bI b) rfl rfl ⟨rfl, by rw [hM]⟩ hd
theorem f_lret (hX : CM X own cc nL d) {v v' : Int64} (hR : RF X (some .long) (some (vL v')) M1) (hv : v = v') (hM : M = M1) (hd : decode cc pc = .ok (.lreturn, 1)) : VW X pc lo [vL v] (gM M) :=
  v_lret hX hR rfl rfl ⟨by rw [hv], by rw [hM]⟩ hd
theorem f_aret (hX : CM X own cc nL d) {r r' : Nat} {cn : String} (hR : RF X (some (.object cn)) (some (vR r')) M1) (hv : r = r') (hM : M = M1) (hd : decode cc pc = .ok (.areturn, 1)) : VW X pc lo [vR r] (gM M) :=
  v_aret hX hR rfl rfl ⟨by rw [hv], by rw [hM]⟩ hd
theorem f_vret (hX : CM X own cc nL d) (hR : RF X none none M1) (hM : M = M1) (hd : decode cc pc = .ok (.return_, 1)) : VW X pc lo [] (gM M) :=
  v_vret hX hR rfl rfl ⟨rfl, by rw [hM]⟩ hd
theorem f_callS (hX : CM X own cc nL d) {y : MethodName} {bytes : ByteArray} {maxL n idx d' : Nat} {ret : Option FieldType} {as S : List AV} {v : AV} (hk : YI y bytes maxL ret n) (hs : Cond.static y ∈ GW) (hl : Cond.methodLink own idx y ∈ GW) (hM : AF y bytes maxL ret d' as M (some v) M1) (hst : S = as.reverse ++ st) (hn : as.length = n) (hlo : lo.length = nL) (r1 : d' + 1 ≤ d) (r2 : maxL ≤ 21) (r3 : (st.map catA).sum ≤ 8) (hd : decode cc pc = .ok (.invokestatic idx, 3)) (k : VW X (pc + 3) lo (v :: st) (gM M1)) : VW X pc lo S (gM M) :=
  v_callS hX hk hs hl hM hst hn hlo ⟨r1, r2, r3, Nat.le_refl _, Nat.le_refl _⟩ (fun r G' h => by rw [h.2]; exact ⟨rfl, rfl⟩) hd (fun r G' h => by obtain ⟨rfl, rfl⟩ := h; exact k)
theorem f_callS0 (hX : CM X own cc nL d) {y : MethodName} {bytes : ByteArray} {maxL n idx d' : Nat} {ret : Option FieldType} {as S : List AV} (hk : YI y bytes maxL ret n) (hs : Cond.static y ∈ GW) (hl : Cond.methodLink own idx y ∈ GW) (hM : AF y bytes maxL ret d' as M none M1) (hst : S = as.reverse ++ st) (hn : as.length = n) (hlo : lo.length = nL) (r1 : d' + 1 ≤ d) (r2 : maxL ≤ 21) (r3 : (st.map catA).sum ≤ 8) (hd : decode cc pc = .ok (.invokestatic idx, 3)) (k : VW X (pc + 3) lo st (gM M1)) : VW X pc lo S (gM M) :=
  v_callS hX hk hs hl hM hst hn hlo ⟨r1, r2, r3, Nat.le_refl _, Nat.le_refl _⟩ (fun r G' h => by rw [h.2]; exact ⟨rfl, rfl⟩) hd (fun r G' h => by obtain ⟨rfl, rfl⟩ := h; exact k)
theorem f_callN (hX : CM X own cc nL d) {bytes : ByteArray} {maxL n idx d' : Nat} {ret : Option FieldType} {as S : List AV} {v : AV} (hk : YI y_LJ_isBelow bytes maxL ret n) (hs : Cond.static y_LJ_isBelow ∈ GW) (hq : (own, idx) ∈ NWs) (hM : AF y_LJ_isBelow bytes maxL ret d' as M (some v) M1) (hst : S = as.reverse ++ st) (hn : as.length = n) (hlo : lo.length = nL) (r1 : d' + 1 ≤ d) (r2 : maxL ≤ 21) (r3 : (st.map catA).sum ≤ 8) (hd : decode cc pc = .ok (.invokestatic idx, 3)) (k : VW X (pc + 3) lo (v :: st) (gM M1)) : VW X pc lo S (gM M) :=
  v_callN hX hk hs hq hM hst hn hlo ⟨r1, r2, r3, Nat.le_refl _, Nat.le_refl _⟩ (fun r G' h => by rw [h.2]; exact ⟨rfl, rfl⟩) hd (fun r G' h => by obtain ⟨rfl, rfl⟩ := h; exact k)
theorem f_callV (hX : CM X own cc nL d) {y : MethodName} {C : String} {bytes : ByteArray} {maxL n idx d' r ci : Nat} {ret : Option FieldType} {as S : List AV} {v : AV} (hk : YI y bytes maxL ret n) (hi : Cond.instanceMethod y ∈ GW) (hs : Cond.selects C y y ∈ GW) (hl : Cond.methodLink own idx y ∈ GW) (hM : AF y bytes maxL ret d' (vR r :: as) M (some v) M1) (hsr : SH[r]? = some (0, ci)) (hC : cNm ci = C) (hst : S = as.reverse ++ vR r :: st) (hn : as.length = n) (hlo : lo.length = nL) (r1 : d' + 1 ≤ d) (r2 : maxL ≤ 21) (r3 : (st.map catA).sum ≤ 8) (hd : decode cc pc = .ok (.invokevirtual idx, 3)) (k : VW X (pc + 3) lo (v :: st) (gM M1)) : VW X pc lo S (gM M) :=
  v_callV hX hk hi hs hl hM (sh_two hsr) hsr (fun q hq => by rw [← hC]; simp [cNm, hq]) hst hn hlo ⟨r1, r2, r3, Nat.le_refl _, Nat.le_refl _⟩ (fun r G' h => by rw [h.2]; exact ⟨rfl, rfl⟩) hd (fun r G' h => by obtain ⟨rfl, rfl⟩ := h; exact k)
theorem f_callV0 (hX : CM X own cc nL d) {y : MethodName} {C : String} {bytes : ByteArray} {maxL n idx d' r ci : Nat} {ret : Option FieldType} {as S : List AV} (hk : YI y bytes maxL ret n) (hi : Cond.instanceMethod y ∈ GW) (hs : Cond.selects C y y ∈ GW) (hl : Cond.methodLink own idx y ∈ GW) (hM : AF y bytes maxL ret d' (vR r :: as) M none M1) (hsr : SH[r]? = some (0, ci)) (hC : cNm ci = C) (hst : S = as.reverse ++ vR r :: st) (hn : as.length = n) (hlo : lo.length = nL) (r1 : d' + 1 ≤ d) (r2 : maxL ≤ 21) (r3 : (st.map catA).sum ≤ 8) (hd : decode cc pc = .ok (.invokevirtual idx, 3)) (k : VW X (pc + 3) lo st (gM M1)) : VW X pc lo S (gM M) :=
  v_callV hX hk hi hs hl hM (sh_two hsr) hsr (fun q hq => by rw [← hC]; simp [cNm, hq]) hst hn hlo ⟨r1, r2, r3, Nat.le_refl _, Nat.le_refl _⟩ (fun r G' h => by rw [h.2]; exact ⟨rfl, rfl⟩) hd (fun r G' h => by obtain ⟨rfl, rfl⟩ := h; exact k)
theorem f_ifeqB (hX : CM X own cc nL d) {b : Bool} {off : Int} {tgt : Nat} (hd : decode cc pc = .ok (.ifCond .eq off, 3)) (ht : (pc : Int) + off = (tgt : Int)) (kt : b = false → VW X tgt lo st (gM M)) (kf : b = true → VW X (pc + 3) lo st (gM M)) : VW X pc lo (vI (bI b) :: st) (gM M) :=
  v_if_eq hX hd ht (fun hc => kt (by cases b; rfl; exact absurd hc (by decide))) (fun hc => kf (by cases b; exact absurd rfl hc; rfl))
theorem f_ifneB (hX : CM X own cc nL d) {b : Bool} {off : Int} {tgt : Nat} (hd : decode cc pc = .ok (.ifCond .ne off, 3)) (ht : (pc : Int) + off = (tgt : Int)) (kt : b = true → VW X tgt lo st (gM M)) (kf : b = false → VW X (pc + 3) lo st (gM M)) : VW X pc lo (vI (bI b) :: st) (gM M) :=
  v_if_ne hX hd ht (fun hc => kt (by cases b; exact absurd rfl hc; rfl)) (fun hc => kf (by cases b; rfl; exact absurd hc (by decide)))
/-- a counted loop: what holds at its head before turn k -/
theorem v_for {head : Nat} (n : Nat) (L : Nat → List (Option AV)) (K : Nat → MM) (hstep : ∀ k, k < n → VW X head (L (k + 1)) [] (gM (K (k + 1))) → VW X head (L k) [] (gM (K k))) (hend : VW X head (L n) [] (gM (K n))) : VW X head (L 0) [] (gM (K 0)) := by
  have h : ∀ m k, k + m = n → VW X head (L k) [] (gM (K k)) := by
    intro m
    induction m with
    | zero => intro k hk; rw [show k = n by omega]; exact hend
    | succ m ih => intro k hk; exact hstep k (by omega) (ih (k + 1) (by omega))
  exact h n 0 (by omega)
/-- the same, with what is known at the head before turn k -/
theorem v_forI {head : Nat} (n : Nat) (L : Nat → List (Option AV)) (K : Nat → MM) (J : Nat → Prop) (h0 : J 0) (hstep : ∀ k, k < n → J k → (J (k + 1) → VW X head (L (k + 1)) [] (gM (K (k + 1)))) → VW X head (L k) [] (gM (K k))) (hend : J n → VW X head (L n) [] (gM (K n))) : VW X head (L 0) [] (gM (K 0)) := by
  have h : ∀ m k, k + m = n → J k → VW X head (L k) [] (gM (K k)) := by
    intro m
    induction m with
    | zero => intro k hk; rw [show k = n by omega]; exact hend
    | succ m ih => intro k hk hJ; exact hstep k (by omega) hJ (ih (k + 1) (by omega))
  exact h n 0 (by omega) h0
end GMR
-- ranges
def rg (x : Int32) (l h : Int) : Bool := decide (l ≤ x.toInt) && decide (x.toInt ≤ h)
theorem rg_true {x : Int32} {l h : Int} : rg x l h = true ↔ l ≤ x.toInt ∧ x.toInt ≤ h := by simp [rg]
theorem rg_in {x : Int32} {n : Nat} (hn : n ≤ 1000) (h : rg x 0 ((n : Int) - 1) = true) : ∃ k, k < n ∧ x = i3 k := by
  obtain ⟨h1, h2⟩ := rg_true.mp h
  refine ⟨x.toInt.toNat, by omega, ?_⟩
  apply Int32.toInt_inj.mp
  rw [i3_int (by omega)]
  omega
theorem rg_i3 {k n : Nat} (h : k < n) (hn : n ≤ 1000) : rg (i3 k) 0 ((n : Int) - 1) = true := by
  rw [rg_true, i3_int (by omega)]; omega
def fsum (f : Nat → Int32) : Nat → Int32
  | 0 => 0
  | k + 1 => fsum f k + f k
theorem upM_same {M : MM} {r k : Nat} {x : Int32} : upM M r k x r k = x := by simp [upM]
theorem upM_ne {M : MM} {r k a i : Nat} {x : Int32} (h : ¬ (a = r ∧ i = k)) : upM M r k x a i = M a i := by simp only [upM]; rw [if_neg h]
-- the references
theorem nf_jar : ∀ j, j < 6 → NF 4 j = 6 + j := by decide +kernel
theorem nf_dec : ∀ j, j < 4 → NF 5 j = 12 + j := by decide +kernel
theorem nf_sheet : ∀ j, j < 4 → NF 27 j = 28 + 2 * j := by decide +kernel
theorem nf_cells : ∀ j, j < 4 → NF (28 + 2 * j) 0 = 29 + 2 * j := by decide +kernel
theorem sh_jar : ∀ j, j < 6 → SH[6 + j]? = some (0, 1) := by decide +kernel
theorem sh_dec : ∀ j, j < 4 → SH[12 + j]? = some (0, 0) := by decide +kernel
theorem sh_sheet : ∀ j, j < 4 → SH[28 + 2 * j]? = some (0, 5) := by decide +kernel
theorem sh_cells : ∀ j, j < 4 → SH[29 + 2 * j]? = some (1, 60) := by decide +kernel
-- comparing ints by their values
theorem lt32 {x y : Int32} : x < y ↔ x.toInt < y.toInt := Int32.lt_iff_toInt_lt
theorem le32 {x y : Int32} : x ≤ y ↔ x.toInt ≤ y.toInt := Int32.le_iff_toInt_le
theorem eq32 {x y : Int32} : x = y ↔ x.toInt = y.toInt := Int32.toInt_inj.symm
theorem q_0 : (0 : Int32).toInt = 0 := rfl
theorem q_1 : (1 : Int32).toInt = 1 := rfl
theorem q_2 : (2 : Int32).toInt = 2 := rfl
theorem q_3 : (3 : Int32).toInt = 3 := rfl
theorem q_4 : (4 : Int32).toInt = 4 := rfl
theorem q_5 : (5 : Int32).toInt = 5 := rfl
theorem q_6 : (6 : Int32).toInt = 6 := rfl
theorem q_7 : (7 : Int32).toInt = 7 := rfl
theorem q_8 : (8 : Int32).toInt = 8 := rfl
theorem q_9 : (9 : Int32).toInt = 9 := rfl
theorem q_10 : (10 : Int32).toInt = 10 := rfl
theorem q_11 : (11 : Int32).toInt = 11 := rfl
theorem q_12 : (12 : Int32).toInt = 12 := rfl
theorem q_15 : (15 : Int32).toInt = 15 := rfl
theorem q_16 : (16 : Int32).toInt = 16 := rfl
theorem q_20 : (20 : Int32).toInt = 20 := rfl
theorem q_21 : (21 : Int32).toInt = 21 := rfl
theorem q_23 : (23 : Int32).toInt = 23 := rfl
theorem q_24 : (24 : Int32).toInt = 24 := rfl
theorem q_29 : (29 : Int32).toInt = 29 := rfl
theorem q_31 : (31 : Int32).toInt = 31 := rfl
theorem q_44 : (44 : Int32).toInt = 44 := rfl
theorem q_48 : (48 : Int32).toInt = 48 := rfl
theorem q_59 : (59 : Int32).toInt = 59 := rfl
theorem q_60 : (60 : Int32).toInt = 60 := rfl
theorem q_61 : (61 : Int32).toInt = 61 := rfl
theorem q_63 : (63 : Int32).toInt = 63 := rfl
theorem q_99 : (99 : Int32).toInt = 99 := rfl
theorem q_100 : (100 : Int32).toInt = 100 := rfl
theorem q_108 : (108 : Int32).toInt = 108 := rfl
theorem q_112 : (112 : Int32).toInt = 112 := rfl
theorem q_116 : (116 : Int32).toInt = 116 := rfl
theorem q_119 : (119 : Int32).toInt = 119 := rfl
theorem q_240 : (240 : Int32).toInt = 240 := rfl
theorem q_m1 : (-1 : Int32).toInt = -1 := rfl
theorem q_m9 : (-9 : Int32).toInt = -9 := rfl
theorem v_top {X : CX} {pc : Nat} {lo : List (Option AV)} {st : List AV} {G : GG} {w : Int32} (k : ∀ y, w = y → VW X pc lo (vI y :: st) G) : VW X pc lo (vI w :: st) G := k w rfl
theorem look_out {dflt x : Int} {ps : List (Int × Int)} (h : ∀ q ∈ ps, q.1 ≠ x) : Op.lookupswitch.offset ps dflt x = dflt := by
  induction ps with
  | nil => rfl
  | cons q t ih =>
    have h1 := h q List.mem_cons_self
    have h2 := ih (fun q hq => h q (List.mem_cons_of_mem _ hq))
    simp only [Op.lookupswitch.offset] at h2 ⊢
    simp [List.find?_cons, h1, h2]
theorem bT {b : Bool} (h : b = true) : (1 : Int32) = bI b := by rw [h]; rfl
theorem bF {b : Bool} (h : b = false) : (0 : Int32) = bI b := by rw [h]; rfl
theorem rgT {x : Int32} {l h : Int} (q : l ≤ x.toInt ∧ x.toInt ≤ h) : (1 : Int32) = bI (rg x l h) := bT (rg_true.mpr q)
theorem rg_false {x : Int32} {l h : Int} : rg x l h = false ↔ ¬ (l ≤ x.toInt ∧ x.toInt ≤ h) := by rw [← rg_true]; simp
theorem rgF {x : Int32} {l h : Int} (q : ¬ (l ≤ x.toInt ∧ x.toInt ≤ h)) : (0 : Int32) = bI (rg x l h) := bF (rg_false.mpr q)
end
section
/-! Jars and deciders. -/
-- what a jar's mark is
def lfM (su fa t : Int32) : Int32 := if 0 < su - fa * t then su - fa * t else 0
def twM (su fa t : Int32) : Int32 := if t = 0 then 0 else lfM su fa (t - 1)
def mkM (kd su fa t : Int32) : Int32 := if kd = 0 then lfM su fa t else if kd = 1 then twM su fa t else twM su fa t / 2
def fmax (f : Nat → Int32) : Nat → Int32
  | 0 => 0
  | k + 1 => if fmax f k < f k then f k else fmax f k
def gtM (kd su fa : Int32) : Int32 := fmax (fun k => mkM kd su fa (i3 k)) 10
def jpart (f : Nat → Int32) (w : Int32) : Int32 := if w = 0 then f 0 else if w = 1 then f 1 else if w = 2 then f 2 else if w = 3 then f 3 else if w = 4 then f 4 else if w = 5 then gtM (f 0) (f 1) (f 2) else -2
def dpart (f : Nat → Int32) (w : Int32) : Int32 := if w = 0 then f 0 else if w = 1 then f 1 else if w = 2 then f 2 else if w = 3 then f 3 else -2
theorem i3_ge_abs {k n : Nat} (h : k < n) (hn : n ≤ 1000) (hc : i3 n ≤ i3 k) : False := by
  have := (i3_le (by omega) (by omega)).mp hc
  omega
theorem d_LJ_isBelow_0 : decode c_LJ_isBelow 0 = .ok (.iload_n 0, 1) := by decide +kernel
theorem d_LJ_isBelow_1 : decode c_LJ_isBelow 1 = .ok (.ifCond .lt 12, 3) := by decide +kernel
theorem d_LJ_isBelow_4 : decode c_LJ_isBelow 4 = .ok (.iload_n 0, 1) := by decide +kernel
theorem d_LJ_isBelow_5 : decode c_LJ_isBelow 5 = .ok (.iload_n 1, 1) := by decide +kernel
theorem d_LJ_isBelow_6 : decode c_LJ_isBelow 6 = .ok (.if_icmp .ge 7, 3) := by decide +kernel
theorem d_LJ_isBelow_9 : decode c_LJ_isBelow 9 = .ok (.iconst 1, 1) := by decide +kernel
theorem d_LJ_isBelow_10 : decode c_LJ_isBelow 10 = .ok (.goto 4, 3) := by decide +kernel
theorem d_LJ_isBelow_13 : decode c_LJ_isBelow 13 = .ok (.iconst 0, 1) := by decide +kernel
theorem d_LJ_isBelow_14 : decode c_LJ_isBelow 14 = .ok (.ireturn, 1) := by decide +kernel
theorem C_LJ_isBelow {M : MM} {v e : Int32} : AF y_LJ_isBelow c_LJ_isBelow 2 (some .boolean) 1 [vI v, vI e] (M) (some (vI (bI (rg v 0 (e.toInt - 1))))) (M) := by
  refine AF.of k_LJ_isBelow (lo := [some (vI v), some (vI e)]) rfl (Nat.le_of_ble_eq_true rfl) (fun X hX hR => ?_)
  refine v_iload_n (pc := 0) hX rfl d_LJ_isBelow_0 ?_
  refine v_if_lt (pc := 1) (tgt := 13) hX d_LJ_isBelow_1 rfl (fun h1 => ?_) (fun h1 => ?_)
  · refine v_iconst (pc := 13) (v := 0) hX (by decide) d_LJ_isBelow_13 ?_
    exact f_zret (pc := 14) hX hR (by first | exact rgF (by simp only [lt32, le32, eq32, q_0, q_1, q_2, q_3, q_4, q_5, q_6, q_7, q_8, q_9, q_10, q_11, q_12, q_15, q_16, q_20, q_21, q_23, q_24, q_29, q_31, q_44, q_48, q_59, q_60, q_61, q_63, q_99, q_100, q_108, q_112, q_116, q_119, q_240, q_m1, q_m9] at *; omega) | exact rgT (by simp only [lt32, le32, eq32, q_0, q_1, q_2, q_3, q_4, q_5, q_6, q_7, q_8, q_9, q_10, q_11, q_12, q_15, q_16, q_20, q_21, q_23, q_24, q_29, q_31, q_44, q_48, q_59, q_60, q_61, q_63, q_99, q_100, q_108, q_112, q_116, q_119, q_240, q_m1, q_m9] at *; omega)) (rfl) d_LJ_isBelow_14
  · refine v_iload_n (pc := 4) hX rfl d_LJ_isBelow_4 ?_
    refine v_iload_n (pc := 5) hX rfl d_LJ_isBelow_5 ?_
    refine v_icmp_ge (pc := 6) (tgt := 13) hX d_LJ_isBelow_6 rfl (fun h6 => ?_) (fun h6 => ?_)
    · refine v_iconst (pc := 13) (v := 0) hX (by decide) d_LJ_isBelow_13 ?_
      exact f_zret (pc := 14) hX hR (by first | exact rgF (by simp only [lt32, le32, eq32, q_0, q_1, q_2, q_3, q_4, q_5, q_6, q_7, q_8, q_9, q_10, q_11, q_12, q_15, q_16, q_20, q_21, q_23, q_24, q_29, q_31, q_44, q_48, q_59, q_60, q_61, q_63, q_99, q_100, q_108, q_112, q_116, q_119, q_240, q_m1, q_m9] at *; omega) | exact rgT (by simp only [lt32, le32, eq32, q_0, q_1, q_2, q_3, q_4, q_5, q_6, q_7, q_8, q_9, q_10, q_11, q_12, q_15, q_16, q_20, q_21, q_23, q_24, q_29, q_31, q_44, q_48, q_59, q_60, q_61, q_63, q_99, q_100, q_108, q_112, q_116, q_119, q_240, q_m1, q_m9] at *; omega)) (rfl) d_LJ_isBelow_14
    · refine v_iconst (pc := 9) (v := 1) hX (by decide) d_LJ_isBelow_9 ?_
      refine v_goto (pc := 10) (tgt := 14) hX d_LJ_isBelow_10 rfl ?_
      exact f_zret (pc := 14) hX hR (by first | exact rgF (by simp only [lt32, le32, eq32, q_0, q_1, q_2, q_3, q_4, q_5, q_6, q_7, q_8, q_9, q_10, q_11, q_12, q_15, q_16, q_20, q_21, q_23, q_24, q_29, q_31, q_44, q_48, q_59, q_60, q_61, q_63, q_99, q_100, q_108, q_112, q_116, q_119, q_240, q_m1, q_m9] at *; omega) | exact rgT (by simp only [lt32, le32, eq32, q_0, q_1, q_2, q_3, q_4, q_5, q_6, q_7, q_8, q_9, q_10, q_11, q_12, q_15, q_16, q_20, q_21, q_23, q_24, q_29, q_31, q_44, q_48, q_59, q_60, q_61, q_63, q_99, q_100, q_108, q_112, q_116, q_119, q_240, q_m1, q_m9] at *; omega)) (rfl) d_LJ_isBelow_14
theorem d_Ja_leafMark_0 : decode c_Ja_leafMark 0 = .ok (.iconst 0, 1) := by decide +kernel
theorem d_Ja_leafMark_1 : decode c_Ja_leafMark 1 = .ok (.aload_n 0, 1) := by decide +kernel
theorem d_Ja_leafMark_2 : decode c_Ja_leafMark 2 = .ok (.getfield 15, 3) := by decide +kernel
theorem d_Ja_leafMark_5 : decode c_Ja_leafMark 5 = .ok (.aload_n 0, 1) := by decide +kernel
theorem d_Ja_leafMark_6 : decode c_Ja_leafMark 6 = .ok (.getfield 18, 3) := by decide +kernel
theorem d_Ja_leafMark_9 : decode c_Ja_leafMark 9 = .ok (.iload_n 1, 1) := by decide +kernel
theorem d_Ja_leafMark_10 : decode c_Ja_leafMark 10 = .ok (.imul, 1) := by decide +kernel
theorem d_Ja_leafMark_11 : decode c_Ja_leafMark 11 = .ok (.isub, 1) := by decide +kernel
theorem d_Ja_leafMark_12 : decode c_Ja_leafMark 12 = .ok (.invokestatic 38, 3) := by decide +kernel
theorem d_Ja_leafMark_15 : decode c_Ja_leafMark 15 = .ok (.ireturn, 1) := by decide +kernel
theorem C_Ja_leafMark {M : MM} {r : Nat} {t : Int32} (hr : SH[r]? = some (0, 1)) : AF y_Ja_leafMark c_Ja_leafMark 2 (some .int) 1 [vR r, vI t] (M) (some (vI (lfM (M r 1) (M r 2) t))) (M) := by
  refine AF.of k_Ja_leafMark (lo := [some (vR r), some (vI t)]) rfl (Nat.le_of_ble_eq_true rfl) (fun X hX hR => ?_)
  refine v_iconst (pc := 0) (v := 0) hX (by decide) d_Ja_leafMark_0 ?_
  refine v_aload_n (pc := 1) hX rfl d_Ja_leafMark_1 ?_
  refine g_getI (pc := 2) hX fl_Ja_15 rfl (by assumption) d_Ja_leafMark_2 ?_
  refine v_aload_n (pc := 5) hX rfl d_Ja_leafMark_5 ?_
  refine g_getI (pc := 6) hX fl_Ja_18 rfl (by assumption) d_Ja_leafMark_6 ?_
  refine v_iload_n (pc := 9) hX rfl d_Ja_leafMark_9 ?_
  refine v_imul (pc := 10) hX d_Ja_leafMark_10 ?_
  refine v_isub (pc := 11) hX d_Ja_leafMark_11 ?_
  refine g_max (pc := 12) hX ml_Ja_38 rfl (Nat.le_of_ble_eq_true rfl) (Nat.le_of_ble_eq_true rfl) d_Ja_leafMark_12 ?_
  exact f_iret (pc := 15) hX hR (rfl) (rfl) d_Ja_leafMark_15
theorem d_Ja_twistMark_0 : decode c_Ja_twistMark 0 = .ok (.iload_n 1, 1) := by decide +kernel
theorem d_Ja_twistMark_1 : decode c_Ja_twistMark 1 = .ok (.ifCond .ne 7, 3) := by decide +kernel
theorem d_Ja_twistMark_4 : decode c_Ja_twistMark 4 = .ok (.iconst 0, 1) := by decide +kernel
theorem d_Ja_twistMark_5 : decode c_Ja_twistMark 5 = .ok (.goto 10, 3) := by decide +kernel
theorem d_Ja_twistMark_8 : decode c_Ja_twistMark 8 = .ok (.aload_n 0, 1) := by decide +kernel
theorem d_Ja_twistMark_9 : decode c_Ja_twistMark 9 = .ok (.iload_n 1, 1) := by decide +kernel
theorem d_Ja_twistMark_10 : decode c_Ja_twistMark 10 = .ok (.iconst 1, 1) := by decide +kernel
theorem d_Ja_twistMark_11 : decode c_Ja_twistMark 11 = .ok (.isub, 1) := by decide +kernel
theorem d_Ja_twistMark_12 : decode c_Ja_twistMark 12 = .ok (.invokevirtual 31, 3) := by decide +kernel
theorem d_Ja_twistMark_15 : decode c_Ja_twistMark 15 = .ok (.ireturn, 1) := by decide +kernel
theorem C_Ja_twistMark {M : MM} {r : Nat} {t : Int32} (hr : SH[r]? = some (0, 1)) : AF y_Ja_twistMark c_Ja_twistMark 2 (some .int) 2 [vR r, vI t] (M) (some (vI (twM (M r 1) (M r 2) t))) (M) := by
  refine AF.of k_Ja_twistMark (lo := [some (vR r), some (vI t)]) rfl (Nat.le_of_ble_eq_true rfl) (fun X hX hR => ?_)
  refine v_iload_n (pc := 0) hX rfl d_Ja_twistMark_0 ?_
  refine v_if_ne (pc := 1) (tgt := 8) hX d_Ja_twistMark_1 rfl (fun h1 => ?_) (fun h1 => ?_)
  · refine v_aload_n (pc := 8) hX rfl d_Ja_twistMark_8 ?_
    refine v_iload_n (pc := 9) hX rfl d_Ja_twistMark_9 ?_
    refine v_iconst (pc := 10) (v := 1) hX (by decide) d_Ja_twistMark_10 ?_
    refine v_isub (pc := 11) hX d_Ja_twistMark_11 ?_
    refine f_callV (pc := 12) hX k_Ja_leafMark ki_Ja_leafMark kv_Ja_leafMark ml_Ja_31 (C_Ja_leafMark (by assumption)) (by assumption) rfl rfl rfl rfl (Nat.le_of_ble_eq_true rfl) (Nat.le_of_ble_eq_true rfl) (Nat.le_of_ble_eq_true rfl) d_Ja_twistMark_12 ?_
    exact f_iret (pc := 15) hX hR (by simp [twM, *]) (rfl) d_Ja_twistMark_15
  · refine v_iconst (pc := 4) (v := 0) hX (by decide) d_Ja_twistMark_4 ?_
    refine v_goto (pc := 5) (tgt := 15) hX d_Ja_twistMark_5 rfl ?_
    exact f_iret (pc := 15) hX hR (by simp [twM, *]) (rfl) d_Ja_twistMark_15
theorem d_Ja_markIn_0 : decode c_Ja_markIn 0 = .ok (.aload_n 0, 1) := by decide +kernel
theorem d_Ja_markIn_1 : decode c_Ja_markIn 1 = .ok (.getfield 9, 3) := by decide +kernel
theorem d_Ja_markIn_4 : decode c_Ja_markIn 4 = .ok (.lookupswitch 40 #[(0, 28), (1, 34)], 28) := by decide +kernel
theorem d_Ja_markIn_32 : decode c_Ja_markIn 32 = .ok (.aload_n 0, 1) := by decide +kernel
theorem d_Ja_markIn_33 : decode c_Ja_markIn 33 = .ok (.iload_n 1, 1) := by decide +kernel
theorem d_Ja_markIn_34 : decode c_Ja_markIn 34 = .ok (.invokevirtual 31, 3) := by decide +kernel
theorem d_Ja_markIn_37 : decode c_Ja_markIn 37 = .ok (.ireturn, 1) := by decide +kernel
theorem d_Ja_markIn_38 : decode c_Ja_markIn 38 = .ok (.aload_n 0, 1) := by decide +kernel
theorem d_Ja_markIn_39 : decode c_Ja_markIn 39 = .ok (.iload_n 1, 1) := by decide +kernel
theorem d_Ja_markIn_40 : decode c_Ja_markIn 40 = .ok (.invokevirtual 35, 3) := by decide +kernel
theorem d_Ja_markIn_43 : decode c_Ja_markIn 43 = .ok (.ireturn, 1) := by decide +kernel
theorem d_Ja_markIn_44 : decode c_Ja_markIn 44 = .ok (.aload_n 0, 1) := by decide +kernel
theorem d_Ja_markIn_45 : decode c_Ja_markIn 45 = .ok (.iload_n 1, 1) := by decide +kernel
theorem d_Ja_markIn_46 : decode c_Ja_markIn 46 = .ok (.invokevirtual 35, 3) := by decide +kernel
theorem d_Ja_markIn_49 : decode c_Ja_markIn 49 = .ok (.iconst 2, 1) := by decide +kernel
theorem d_Ja_markIn_50 : decode c_Ja_markIn 50 = .ok (.idiv, 1) := by decide +kernel
theorem d_Ja_markIn_51 : decode c_Ja_markIn 51 = .ok (.ireturn, 1) := by decide +kernel
theorem C_Ja_markIn {M : MM} {r : Nat} {t : Int32} (hr : SH[r]? = some (0, 1)) : AF y_Ja_markIn c_Ja_markIn 2 (some .int) 3 [vR r, vI t] (M) (some (vI (mkM (M r 0) (M r 1) (M r 2) t))) (M) := by
  refine AF.of k_Ja_markIn (lo := [some (vR r), some (vI t)]) rfl (Nat.le_of_ble_eq_true rfl) (fun X hX hR => ?_)
  refine v_aload_n (pc := 0) hX rfl d_Ja_markIn_0 ?_
  refine g_getI (pc := 1) hX fl_Ja_9 rfl (by assumption) d_Ja_markIn_1 ?_
  refine v_top (fun y4 q4 => ?_)
  by_cases e4_0 : y4 = 0
  · subst e4_0
    refine v_look (pc := 4) (tgt := 32) (off := 28) hX d_Ja_markIn_4 (by decide) (by decide) rfl ?_
    refine v_aload_n (pc := 32) hX rfl d_Ja_markIn_32 ?_
    refine v_iload_n (pc := 33) hX rfl d_Ja_markIn_33 ?_
    refine f_callV (pc := 34) hX k_Ja_leafMark ki_Ja_leafMark kv_Ja_leafMark ml_Ja_31 (C_Ja_leafMark (by assumption)) (by assumption) rfl rfl rfl rfl (Nat.le_of_ble_eq_true rfl) (Nat.le_of_ble_eq_true rfl) (Nat.le_of_ble_eq_true rfl) d_Ja_markIn_34 ?_
    exact f_iret (pc := 37) hX hR (by simp [mkM, *]) (rfl) d_Ja_markIn_37
  by_cases e4_1 : y4 = 1
  · subst e4_1
    refine v_look (pc := 4) (tgt := 38) (off := 34) hX d_Ja_markIn_4 (by decide) (by decide) rfl ?_
    refine v_aload_n (pc := 38) hX rfl d_Ja_markIn_38 ?_
    refine v_iload_n (pc := 39) hX rfl d_Ja_markIn_39 ?_
    refine f_callV (pc := 40) hX k_Ja_twistMark ki_Ja_twistMark kv_Ja_twistMark ml_Ja_35 (C_Ja_twistMark (by assumption)) (by assumption) rfl rfl rfl rfl (Nat.le_of_ble_eq_true rfl) (Nat.le_of_ble_eq_true rfl) (Nat.le_of_ble_eq_true rfl) d_Ja_markIn_40 ?_
    exact f_iret (pc := 43) hX hR (by simp [mkM, *]) (rfl) d_Ja_markIn_43
  refine v_look (pc := 4) (tgt := 44) hX d_Ja_markIn_4 (by decide) (look_out (by simp only [eq32, q_0, q_1, q_2, q_3, q_4, q_5, q_6, q_7, q_8, q_9, q_10, q_11, q_12, q_15, q_16, q_20, q_21, q_23, q_24, q_29, q_31, q_44, q_48, q_59, q_60, q_61, q_63, q_99, q_100, q_108, q_112, q_116, q_119, q_240, q_m1, q_m9] at e4_0 e4_1; simp; omega)) rfl ?_
  refine v_aload_n (pc := 44) hX rfl d_Ja_markIn_44 ?_
  refine v_iload_n (pc := 45) hX rfl d_Ja_markIn_45 ?_
  refine f_callV (pc := 46) hX k_Ja_twistMark ki_Ja_twistMark kv_Ja_twistMark ml_Ja_35 (C_Ja_twistMark (by assumption)) (by assumption) rfl rfl rfl rfl (Nat.le_of_ble_eq_true rfl) (Nat.le_of_ble_eq_true rfl) (Nat.le_of_ble_eq_true rfl) d_Ja_markIn_46 ?_
  refine v_iconst (pc := 49) (v := 2) hX (by decide) d_Ja_markIn_49 ?_
  refine v_idiv (pc := 50) hX (by decide) d_Ja_markIn_50 ?_
  exact f_iret (pc := 51) hX hR (by simp [mkM, *]) (rfl) d_Ja_markIn_51
theorem d_Ja_greatest_0 : decode c_Ja_greatest 0 = .ok (.iconst 0, 1) := by decide +kernel
theorem d_Ja_greatest_1 : decode c_Ja_greatest 1 = .ok (.istore_n 1, 1) := by decide +kernel
theorem d_Ja_greatest_2 : decode c_Ja_greatest 2 = .ok (.iconst 0, 1) := by decide +kernel
theorem d_Ja_greatest_3 : decode c_Ja_greatest 3 = .ok (.istore_n 2, 1) := by decide +kernel
theorem d_Ja_greatest_4 : decode c_Ja_greatest 4 = .ok (.iload_n 2, 1) := by decide +kernel
theorem d_Ja_greatest_5 : decode c_Ja_greatest 5 = .ok (.bipush 10, 2) := by decide +kernel
theorem d_Ja_greatest_7 : decode c_Ja_greatest 7 = .ok (.if_icmp .ge 19, 3) := by decide +kernel
theorem d_Ja_greatest_10 : decode c_Ja_greatest 10 = .ok (.iload_n 1, 1) := by decide +kernel
theorem d_Ja_greatest_11 : decode c_Ja_greatest 11 = .ok (.aload_n 0, 1) := by decide +kernel
theorem d_Ja_greatest_12 : decode c_Ja_greatest 12 = .ok (.iload_n 2, 1) := by decide +kernel
theorem d_Ja_greatest_13 : decode c_Ja_greatest 13 = .ok (.invokevirtual 44, 3) := by decide +kernel
theorem d_Ja_greatest_16 : decode c_Ja_greatest 16 = .ok (.invokestatic 38, 3) := by decide +kernel
theorem d_Ja_greatest_19 : decode c_Ja_greatest 19 = .ok (.istore_n 1, 1) := by decide +kernel
theorem d_Ja_greatest_20 : decode c_Ja_greatest 20 = .ok (.iinc 2 1, 3) := by decide +kernel
theorem d_Ja_greatest_23 : decode c_Ja_greatest 23 = .ok (.goto (-19), 3) := by decide +kernel
theorem d_Ja_greatest_26 : decode c_Ja_greatest 26 = .ok (.iload_n 1, 1) := by decide +kernel
theorem d_Ja_greatest_27 : decode c_Ja_greatest 27 = .ok (.ireturn, 1) := by decide +kernel
theorem C_Ja_greatest {M : MM} {r : Nat} (hr : SH[r]? = some (0, 1)) : AF y_Ja_greatest c_Ja_greatest 3 (some .int) 4 [vR r] (M) (some (vI (gtM (M r 0) (M r 1) (M r 2)))) (M) := by
  refine AF.of k_Ja_greatest (lo := [some (vR r), none, none]) rfl (Nat.le_of_ble_eq_true rfl) (fun X hX hR => ?_)
  refine v_iconst (pc := 0) (v := 0) hX (by decide) d_Ja_greatest_0 ?_
  refine v_istore_n (pc := 1) (lo' := [some (vR _), some (vI _), none]) hX (Nat.le_of_ble_eq_true rfl) rfl d_Ja_greatest_1 ?_
  refine v_iconst (pc := 2) (v := 0) hX (by decide) d_Ja_greatest_2 ?_
  refine v_istore_n (pc := 3) (lo' := [some (vR _), some (vI _), some (vI _)]) hX (Nat.le_of_ble_eq_true rfl) rfl d_Ja_greatest_3 ?_
  refine VW.cast (lo' := [some (vR r), some (vI (fmax (fun k => mkM (M r 0) (M r 1) (M r 2) (i3 k)) 0)), some (vI (i3 0))]) (st' := []) (G' := gM (M)) rfl rfl rfl ?_
  refine v_for (X := X) (head := 4) (10) (fun kk => [some (vR r), some (vI (fmax (fun k => mkM (M r 0) (M r 1) (M r 2) (i3 k)) kk)), some (vI (i3 kk))]) (fun kk => M) (fun k hk ih4 => ?_) ?_
  · show VW X 4 [some (vR r), some (vI (fmax (fun k => mkM (M r 0) (M r 1) (M r 2) (i3 k)) k)), some (vI (i3 k))] [] (gM (M))
    refine v_iload_n (pc := 4) hX rfl d_Ja_greatest_4 ?_
    refine v_bipush (pc := 5) (v := 10) hX (by decide) d_Ja_greatest_5 ?_
    refine v_icmp_ge (pc := 7) (tgt := 26) hX d_Ja_greatest_7 rfl (fun h7 => False.elim (i3_ge_abs (n := 10) hk (by decide) h7)) (fun h7 => ?_)
    refine v_iload_n (pc := 10) hX rfl d_Ja_greatest_10 ?_
    refine v_aload_n (pc := 11) hX rfl d_Ja_greatest_11 ?_
    refine v_iload_n (pc := 12) hX rfl d_Ja_greatest_12 ?_
    refine f_callV (pc := 13) hX k_Ja_markIn ki_Ja_markIn kv_Ja_markIn ml_Ja_44 (C_Ja_markIn (by assumption)) (by assumption) rfl rfl rfl rfl (Nat.le_of_ble_eq_true rfl) (Nat.le_of_ble_eq_true rfl) (Nat.le_of_ble_eq_true rfl) d_Ja_greatest_13 ?_
    refine g_max (pc := 16) hX ml_Ja_38 rfl (Nat.le_of_ble_eq_true rfl) (Nat.le_of_ble_eq_true rfl) d_Ja_greatest_16 ?_
    refine v_istore_n (pc := 19) (lo' := [some (vR _), some (vI _), some (vI _)]) hX (Nat.le_of_ble_eq_true rfl) rfl d_Ja_greatest_19 ?_
    refine v_iinc (pc := 20) (lo' := [some (vR _), some (vI _), some (vI _)]) hX rfl rfl d_Ja_greatest_20 ?_
    refine v_goto (pc := 23) (tgt := 4) hX d_Ja_greatest_23 rfl ?_
    exact VW.cast (by rw [i3_succ]; rfl) rfl rfl ih4
  · show VW X 4 [some (vR r), some (vI (fmax (fun k => mkM (M r 0) (M r 1) (M r 2) (i3 k)) (10))), some (vI (i3 (10)))] [] (gM (M))
    refine v_iload_n (pc := 4) hX rfl d_Ja_greatest_4 ?_
    refine v_bipush (pc := 5) (v := 10) hX (by decide) d_Ja_greatest_5 ?_
    refine v_icmp_ge (pc := 7) (tgt := 26) hX d_Ja_greatest_7 rfl (fun h7 => ?_) (fun h7 => False.elim (by revert h7; decide))
    refine v_iload_n (pc := 26) hX rfl d_Ja_greatest_26 ?_
    exact f_iret (pc := 27) hX hR (rfl) (rfl) d_Ja_greatest_27
theorem d_Ja_part_0 : decode c_Ja_part 0 = .ok (.iload_n 1, 1) := by decide +kernel
theorem d_Ja_part_1 : decode c_Ja_part 1 = .ok (.tableswitch 69 0 5 #[39, 44, 49, 54, 59, 64], 39) := by decide +kernel
theorem d_Ja_part_40 : decode c_Ja_part 40 = .ok (.aload_n 0, 1) := by decide +kernel
theorem d_Ja_part_41 : decode c_Ja_part 41 = .ok (.getfield 9, 3) := by decide +kernel
theorem d_Ja_part_44 : decode c_Ja_part 44 = .ok (.ireturn, 1) := by decide +kernel
theorem d_Ja_part_45 : decode c_Ja_part 45 = .ok (.aload_n 0, 1) := by decide +kernel
theorem d_Ja_part_46 : decode c_Ja_part 46 = .ok (.getfield 15, 3) := by decide +kernel
theorem d_Ja_part_49 : decode c_Ja_part 49 = .ok (.ireturn, 1) := by decide +kernel
theorem d_Ja_part_50 : decode c_Ja_part 50 = .ok (.aload_n 0, 1) := by decide +kernel
theorem d_Ja_part_51 : decode c_Ja_part 51 = .ok (.getfield 18, 3) := by decide +kernel
theorem d_Ja_part_54 : decode c_Ja_part 54 = .ok (.ireturn, 1) := by decide +kernel
theorem d_Ja_part_55 : decode c_Ja_part 55 = .ok (.aload_n 0, 1) := by decide +kernel
theorem d_Ja_part_56 : decode c_Ja_part 56 = .ok (.getfield 21, 3) := by decide +kernel
theorem d_Ja_part_59 : decode c_Ja_part 59 = .ok (.ireturn, 1) := by decide +kernel
theorem d_Ja_part_60 : decode c_Ja_part 60 = .ok (.aload_n 0, 1) := by decide +kernel
theorem d_Ja_part_61 : decode c_Ja_part 61 = .ok (.getfield 24, 3) := by decide +kernel
theorem d_Ja_part_64 : decode c_Ja_part 64 = .ok (.ireturn, 1) := by decide +kernel
theorem d_Ja_part_65 : decode c_Ja_part 65 = .ok (.aload_n 0, 1) := by decide +kernel
theorem d_Ja_part_66 : decode c_Ja_part 66 = .ok (.invokevirtual 27, 3) := by decide +kernel
theorem d_Ja_part_69 : decode c_Ja_part 69 = .ok (.ireturn, 1) := by decide +kernel
theorem d_Ja_part_70 : decode c_Ja_part 70 = .ok (.bipush (-2), 2) := by decide +kernel
theorem d_Ja_part_72 : decode c_Ja_part 72 = .ok (.ireturn, 1) := by decide +kernel
theorem C_Ja_part {M : MM} {r : Nat} {t : Int32} (hr : SH[r]? = some (0, 1)) : AF y_Ja_part c_Ja_part 2 (some .int) 5 [vR r, vI t] (M) (some (vI (jpart (M r) t))) (M) := by
  refine AF.of k_Ja_part (lo := [some (vR r), some (vI t)]) rfl (Nat.le_of_ble_eq_true rfl) (fun X hX hR => ?_)
  refine v_iload_n (pc := 0) hX rfl d_Ja_part_0 ?_
  refine v_top (fun y1 q1 => ?_)
  by_cases e1_0 : y1 = 0
  · refine v_tabIn (pc := 1) (tgt := 40) (off := 39) (y := 0) hX e1_0 d_Ja_part_1 (by decide) (by decide) (by decide) rfl ?_
    refine v_aload_n (pc := 40) hX rfl d_Ja_part_40 ?_
    refine g_getI (pc := 41) hX fl_Ja_9 rfl (by assumption) d_Ja_part_41 ?_
    exact f_iret (pc := 44) hX hR (by simp [jpart, *]) (rfl) d_Ja_part_44
  by_cases e1_1 : y1 = 1
  · refine v_tabIn (pc := 1) (tgt := 45) (off := 44) (y := 1) hX e1_1 d_Ja_part_1 (by decide) (by decide) (by decide) rfl ?_
    refine v_aload_n (pc := 45) hX rfl d_Ja_part_45 ?_
    refine g_getI (pc := 46) hX fl_Ja_15 rfl (by assumption) d_Ja_part_46 ?_
    exact f_iret (pc := 49) hX hR (by simp [jpart, *]) (rfl) d_Ja_part_49
  by_cases e1_2 : y1 = 2
  · refine v_tabIn (pc := 1) (tgt := 50) (off := 49) (y := 2) hX e1_2 d_Ja_part_1 (by decide) (by decide) (by decide) rfl ?_
    refine v_aload_n (pc := 50) hX rfl d_Ja_part_50 ?_
    refine g_getI (pc := 51) hX fl_Ja_18 rfl (by assumption) d_Ja_part_51 ?_
    exact f_iret (pc := 54) hX hR (by simp [jpart, *]) (rfl) d_Ja_part_54
  by_cases e1_3 : y1 = 3
  · refine v_tabIn (pc := 1) (tgt := 55) (off := 54) (y := 3) hX e1_3 d_Ja_part_1 (by decide) (by decide) (by decide) rfl ?_
    refine v_aload_n (pc := 55) hX rfl d_Ja_part_55 ?_
    refine g_getI (pc := 56) hX fl_Ja_21 rfl (by assumption) d_Ja_part_56 ?_
    exact f_iret (pc := 59) hX hR (by simp [jpart, *]) (rfl) d_Ja_part_59
  by_cases e1_4 : y1 = 4
  · refine v_tabIn (pc := 1) (tgt := 60) (off := 59) (y := 4) hX e1_4 d_Ja_part_1 (by decide) (by decide) (by decide) rfl ?_
    refine v_aload_n (pc := 60) hX rfl d_Ja_part_60 ?_
    refine g_getI (pc := 61) hX fl_Ja_24 rfl (by assumption) d_Ja_part_61 ?_
    exact f_iret (pc := 64) hX hR (by simp [jpart, *]) (rfl) d_Ja_part_64
  by_cases e1_5 : y1 = 5
  · refine v_tabIn (pc := 1) (tgt := 65) (off := 64) (y := 5) hX e1_5 d_Ja_part_1 (by decide) (by decide) (by decide) rfl ?_
    refine v_aload_n (pc := 65) hX rfl d_Ja_part_65 ?_
    refine f_callV (pc := 66) hX k_Ja_greatest ki_Ja_greatest kv_Ja_greatest ml_Ja_27 (C_Ja_greatest (by assumption)) (by assumption) rfl rfl rfl rfl (Nat.le_of_ble_eq_true rfl) (Nat.le_of_ble_eq_true rfl) (Nat.le_of_ble_eq_true rfl) d_Ja_part_66 ?_
    exact f_iret (pc := 69) hX hR (by simp [jpart, *]) (rfl) d_Ja_part_69
  refine v_tabOut (pc := 1) (tgt := 70) hX d_Ja_part_1 (by simp only [eq32, q_0, q_1, q_2, q_3, q_4, q_5, q_6, q_7, q_8, q_9, q_10, q_11, q_12, q_15, q_16, q_20, q_21, q_23, q_24, q_29, q_31, q_44, q_48, q_59, q_60, q_61, q_63, q_99, q_100, q_108, q_112, q_116, q_119, q_240, q_m1, q_m9] at e1_0 e1_1 e1_2 e1_3 e1_4 e1_5; omega) rfl ?_
  refine v_bipush (pc := 70) (v := (-2)) hX (by decide) d_Ja_part_70 ?_
  exact f_iret (pc := 72) hX hR (by simp [jpart, *]) (rfl) d_Ja_part_72
theorem d_Ja_become_0 : decode c_Ja_become 0 = .ok (.iload_n 1, 1) := by decide +kernel
theorem d_Ja_become_1 : decode c_Ja_become 1 = .ok (.tableswitch 75 0 4 #[35, 43, 51, 59, 67], 35) := by decide +kernel
theorem d_Ja_become_36 : decode c_Ja_become 36 = .ok (.aload_n 0, 1) := by decide +kernel
theorem d_Ja_become_37 : decode c_Ja_become 37 = .ok (.iload_n 2, 1) := by decide +kernel
theorem d_Ja_become_38 : decode c_Ja_become 38 = .ok (.putfield 9, 3) := by decide +kernel
theorem d_Ja_become_41 : decode c_Ja_become 41 = .ok (.goto 35, 3) := by decide +kernel
theorem d_Ja_become_44 : decode c_Ja_become 44 = .ok (.aload_n 0, 1) := by decide +kernel
theorem d_Ja_become_45 : decode c_Ja_become 45 = .ok (.iload_n 2, 1) := by decide +kernel
theorem d_Ja_become_46 : decode c_Ja_become 46 = .ok (.putfield 15, 3) := by decide +kernel
theorem d_Ja_become_49 : decode c_Ja_become 49 = .ok (.goto 27, 3) := by decide +kernel
theorem d_Ja_become_52 : decode c_Ja_become 52 = .ok (.aload_n 0, 1) := by decide +kernel
theorem d_Ja_become_53 : decode c_Ja_become 53 = .ok (.iload_n 2, 1) := by decide +kernel
theorem d_Ja_become_54 : decode c_Ja_become 54 = .ok (.putfield 18, 3) := by decide +kernel
theorem d_Ja_become_57 : decode c_Ja_become 57 = .ok (.goto 19, 3) := by decide +kernel
theorem d_Ja_become_60 : decode c_Ja_become 60 = .ok (.aload_n 0, 1) := by decide +kernel
theorem d_Ja_become_61 : decode c_Ja_become 61 = .ok (.iload_n 2, 1) := by decide +kernel
theorem d_Ja_become_62 : decode c_Ja_become 62 = .ok (.putfield 21, 3) := by decide +kernel
theorem d_Ja_become_65 : decode c_Ja_become 65 = .ok (.goto 11, 3) := by decide +kernel
theorem d_Ja_become_68 : decode c_Ja_become 68 = .ok (.aload_n 0, 1) := by decide +kernel
theorem d_Ja_become_69 : decode c_Ja_become 69 = .ok (.iload_n 2, 1) := by decide +kernel
theorem d_Ja_become_70 : decode c_Ja_become 70 = .ok (.putfield 24, 3) := by decide +kernel
theorem d_Ja_become_73 : decode c_Ja_become 73 = .ok (.goto 3, 3) := by decide +kernel
theorem d_Ja_become_76 : decode c_Ja_become 76 = .ok (.return_, 1) := by decide +kernel
theorem C_Ja_become_0 {M : MM} {r : Nat} {t : Int32} (hr : SH[r]? = some (0, 1)) : AF y_Ja_become c_Ja_become 3 none 1 [vR r, vI 0, vI t] (M) (none) (upM M r 0 t) := by
  refine AF.of k_Ja_become (lo := [some (vR r), some (vI 0), some (vI t)]) rfl (Nat.le_of_ble_eq_true rfl) (fun X hX hR => ?_)
  refine v_iload_n (pc := 0) hX rfl d_Ja_become_0 ?_
  refine v_top (fun y1 q1 => ?_)
  by_cases e1_0 : y1 = 0
  · refine v_tabIn (pc := 1) (tgt := 36) (off := 35) (y := 0) hX e1_0 d_Ja_become_1 (by decide) (by decide) (by decide) rfl ?_
    refine v_aload_n (pc := 36) hX rfl d_Ja_become_36 ?_
    refine v_iload_n (pc := 37) hX rfl d_Ja_become_37 ?_
    refine g_putI (pc := 38) hX fl_Ja_9 rfl (finI rfl rfl) (by assumption) rfl rfl d_Ja_become_38 ?_
    refine v_goto (pc := 41) (tgt := 76) hX d_Ja_become_41 rfl ?_
    exact f_vret (pc := 76) hX hR (rfl) d_Ja_become_76
  exact False.elim (e1_0 q1.symm)
theorem C_Ja_become_1 {M : MM} {r : Nat} {t : Int32} (hr : SH[r]? = some (0, 1)) : AF y_Ja_become c_Ja_become 3 none 1 [vR r, vI 1, vI t] (M) (none) (upM M r 1 t) := by
  refine AF.of k_Ja_become (lo := [some (vR r), some (vI 1), some (vI t)]) rfl (Nat.le_of_ble_eq_true rfl) (fun X hX hR => ?_)
  refine v_iload_n (pc := 0) hX rfl d_Ja_become_0 ?_
  refine v_top (fun y1 q1 => ?_)
  by_cases e1_1 : y1 = 1
  · refine v_tabIn (pc := 1) (tgt := 44) (off := 43) (y := 1) hX e1_1 d_Ja_become_1 (by decide) (by decide) (by decide) rfl ?_
    refine v_aload_n (pc := 44) hX rfl d_Ja_become_44 ?_
    refine v_iload_n (pc := 45) hX rfl d_Ja_become_45 ?_
    refine g_putI (pc := 46) hX fl_Ja_15 rfl (finI rfl rfl) (by assumption) rfl rfl d_Ja_become_46 ?_
    refine v_goto (pc := 49) (tgt := 76) hX d_Ja_become_49 rfl ?_
    exact f_vret (pc := 76) hX hR (rfl) d_Ja_become_76
  exact False.elim (e1_1 q1.symm)
theorem C_Ja_become_2 {M : MM} {r : Nat} {t : Int32} (hr : SH[r]? = some (0, 1)) : AF y_Ja_become c_Ja_become 3 none 1 [vR r, vI 2, vI t] (M) (none) (upM M r 2 t) := by
  refine AF.of k_Ja_become (lo := [some (vR r), some (vI 2), some (vI t)]) rfl (Nat.le_of_ble_eq_true rfl) (fun X hX hR => ?_)
  refine v_iload_n (pc := 0) hX rfl d_Ja_become_0 ?_
  refine v_top (fun y1 q1 => ?_)
  by_cases e1_2 : y1 = 2
  · refine v_tabIn (pc := 1) (tgt := 52) (off := 51) (y := 2) hX e1_2 d_Ja_become_1 (by decide) (by decide) (by decide) rfl ?_
    refine v_aload_n (pc := 52) hX rfl d_Ja_become_52 ?_
    refine v_iload_n (pc := 53) hX rfl d_Ja_become_53 ?_
    refine g_putI (pc := 54) hX fl_Ja_18 rfl (finI rfl rfl) (by assumption) rfl rfl d_Ja_become_54 ?_
    refine v_goto (pc := 57) (tgt := 76) hX d_Ja_become_57 rfl ?_
    exact f_vret (pc := 76) hX hR (rfl) d_Ja_become_76
  exact False.elim (e1_2 q1.symm)
theorem C_Ja_become_3 {M : MM} {r : Nat} {t : Int32} (hr : SH[r]? = some (0, 1)) : AF y_Ja_become c_Ja_become 3 none 1 [vR r, vI 3, vI t] (M) (none) (upM M r 3 t) := by
  refine AF.of k_Ja_become (lo := [some (vR r), some (vI 3), some (vI t)]) rfl (Nat.le_of_ble_eq_true rfl) (fun X hX hR => ?_)
  refine v_iload_n (pc := 0) hX rfl d_Ja_become_0 ?_
  refine v_top (fun y1 q1 => ?_)
  by_cases e1_3 : y1 = 3
  · refine v_tabIn (pc := 1) (tgt := 60) (off := 59) (y := 3) hX e1_3 d_Ja_become_1 (by decide) (by decide) (by decide) rfl ?_
    refine v_aload_n (pc := 60) hX rfl d_Ja_become_60 ?_
    refine v_iload_n (pc := 61) hX rfl d_Ja_become_61 ?_
    refine g_putI (pc := 62) hX fl_Ja_21 rfl (finI rfl rfl) (by assumption) rfl rfl d_Ja_become_62 ?_
    refine v_goto (pc := 65) (tgt := 76) hX d_Ja_become_65 rfl ?_
    exact f_vret (pc := 76) hX hR (rfl) d_Ja_become_76
  exact False.elim (e1_3 q1.symm)
theorem C_Ja_become_4 {M : MM} {r : Nat} {t : Int32} (hr : SH[r]? = some (0, 1)) : AF y_Ja_become c_Ja_become 3 none 1 [vR r, vI 4, vI t] (M) (none) (upM M r 4 t) := by
  refine AF.of k_Ja_become (lo := [some (vR r), some (vI 4), some (vI t)]) rfl (Nat.le_of_ble_eq_true rfl) (fun X hX hR => ?_)
  refine v_iload_n (pc := 0) hX rfl d_Ja_become_0 ?_
  refine v_top (fun y1 q1 => ?_)
  by_cases e1_4 : y1 = 4
  · refine v_tabIn (pc := 1) (tgt := 68) (off := 67) (y := 4) hX e1_4 d_Ja_become_1 (by decide) (by decide) (by decide) rfl ?_
    refine v_aload_n (pc := 68) hX rfl d_Ja_become_68 ?_
    refine v_iload_n (pc := 69) hX rfl d_Ja_become_69 ?_
    refine g_putI (pc := 70) hX fl_Ja_24 rfl (finI rfl rfl) (by assumption) rfl rfl d_Ja_become_70 ?_
    refine v_goto (pc := 73) (tgt := 76) hX d_Ja_become_73 rfl ?_
    exact f_vret (pc := 76) hX hR (rfl) d_Ja_become_76
  exact False.elim (e1_4 q1.symm)
theorem d_De_part_0 : decode c_De_part 0 = .ok (.iload_n 1, 1) := by decide +kernel
theorem d_De_part_1 : decode c_De_part 1 = .ok (.tableswitch 51 0 3 #[31, 36, 41, 46], 31) := by decide +kernel
theorem d_De_part_32 : decode c_De_part 32 = .ok (.aload_n 0, 1) := by decide +kernel
theorem d_De_part_33 : decode c_De_part 33 = .ok (.getfield 9, 3) := by decide +kernel
theorem d_De_part_36 : decode c_De_part 36 = .ok (.ireturn, 1) := by decide +kernel
theorem d_De_part_37 : decode c_De_part 37 = .ok (.aload_n 0, 1) := by decide +kernel
theorem d_De_part_38 : decode c_De_part 38 = .ok (.getfield 15, 3) := by decide +kernel
theorem d_De_part_41 : decode c_De_part 41 = .ok (.ireturn, 1) := by decide +kernel
theorem d_De_part_42 : decode c_De_part 42 = .ok (.aload_n 0, 1) := by decide +kernel
theorem d_De_part_43 : decode c_De_part 43 = .ok (.getfield 18, 3) := by decide +kernel
theorem d_De_part_46 : decode c_De_part 46 = .ok (.ireturn, 1) := by decide +kernel
theorem d_De_part_47 : decode c_De_part 47 = .ok (.aload_n 0, 1) := by decide +kernel
theorem d_De_part_48 : decode c_De_part 48 = .ok (.getfield 21, 3) := by decide +kernel
theorem d_De_part_51 : decode c_De_part 51 = .ok (.ireturn, 1) := by decide +kernel
theorem d_De_part_52 : decode c_De_part 52 = .ok (.bipush (-2), 2) := by decide +kernel
theorem d_De_part_54 : decode c_De_part 54 = .ok (.ireturn, 1) := by decide +kernel
theorem C_De_part {M : MM} {r : Nat} {t : Int32} (hr : SH[r]? = some (0, 0)) : AF y_De_part c_De_part 2 (some .int) 1 [vR r, vI t] (M) (some (vI (dpart (M r) t))) (M) := by
  refine AF.of k_De_part (lo := [some (vR r), some (vI t)]) rfl (Nat.le_of_ble_eq_true rfl) (fun X hX hR => ?_)
  refine v_iload_n (pc := 0) hX rfl d_De_part_0 ?_
  refine v_top (fun y1 q1 => ?_)
  by_cases e1_0 : y1 = 0
  · refine v_tabIn (pc := 1) (tgt := 32) (off := 31) (y := 0) hX e1_0 d_De_part_1 (by decide) (by decide) (by decide) rfl ?_
    refine v_aload_n (pc := 32) hX rfl d_De_part_32 ?_
    refine g_getI (pc := 33) hX fl_De_9 rfl (by assumption) d_De_part_33 ?_
    exact f_iret (pc := 36) hX hR (by simp [dpart, *]) (rfl) d_De_part_36
  by_cases e1_1 : y1 = 1
  · refine v_tabIn (pc := 1) (tgt := 37) (off := 36) (y := 1) hX e1_1 d_De_part_1 (by decide) (by decide) (by decide) rfl ?_
    refine v_aload_n (pc := 37) hX rfl d_De_part_37 ?_
    refine g_getI (pc := 38) hX fl_De_15 rfl (by assumption) d_De_part_38 ?_
    exact f_iret (pc := 41) hX hR (by simp [dpart, *]) (rfl) d_De_part_41
  by_cases e1_2 : y1 = 2
  · refine v_tabIn (pc := 1) (tgt := 42) (off := 41) (y := 2) hX e1_2 d_De_part_1 (by decide) (by decide) (by decide) rfl ?_
    refine v_aload_n (pc := 42) hX rfl d_De_part_42 ?_
    refine g_getI (pc := 43) hX fl_De_18 rfl (by assumption) d_De_part_43 ?_
    exact f_iret (pc := 46) hX hR (by simp [dpart, *]) (rfl) d_De_part_46
  by_cases e1_3 : y1 = 3
  · refine v_tabIn (pc := 1) (tgt := 47) (off := 46) (y := 3) hX e1_3 d_De_part_1 (by decide) (by decide) (by decide) rfl ?_
    refine v_aload_n (pc := 47) hX rfl d_De_part_47 ?_
    refine g_getI (pc := 48) hX fl_De_21 rfl (by assumption) d_De_part_48 ?_
    exact f_iret (pc := 51) hX hR (by simp [dpart, *]) (rfl) d_De_part_51
  refine v_tabOut (pc := 1) (tgt := 52) hX d_De_part_1 (by simp only [eq32, q_0, q_1, q_2, q_3, q_4, q_5, q_6, q_7, q_8, q_9, q_10, q_11, q_12, q_15, q_16, q_20, q_21, q_23, q_24, q_29, q_31, q_44, q_48, q_59, q_60, q_61, q_63, q_99, q_100, q_108, q_112, q_116, q_119, q_240, q_m1, q_m9] at e1_0 e1_1 e1_2 e1_3; omega) rfl ?_
  refine v_bipush (pc := 52) (v := (-2)) hX (by decide) d_De_part_52 ?_
  exact f_iret (pc := 54) hX hR (by simp [dpart, *]) (rfl) d_De_part_54
theorem d_De_become_0 : decode c_De_become 0 = .ok (.iload_n 1, 1) := by decide +kernel
theorem d_De_become_1 : decode c_De_become 1 = .ok (.lookupswitch 43 #[(0, 27), (2, 35)], 27) := by decide +kernel
theorem d_De_become_28 : decode c_De_become 28 = .ok (.aload_n 0, 1) := by decide +kernel
theorem d_De_become_29 : decode c_De_become 29 = .ok (.iload_n 2, 1) := by decide +kernel
theorem d_De_become_30 : decode c_De_become 30 = .ok (.putfield 9, 3) := by decide +kernel
theorem d_De_become_33 : decode c_De_become 33 = .ok (.goto 11, 3) := by decide +kernel
theorem d_De_become_36 : decode c_De_become 36 = .ok (.aload_n 0, 1) := by decide +kernel
theorem d_De_become_37 : decode c_De_become 37 = .ok (.iload_n 2, 1) := by decide +kernel
theorem d_De_become_38 : decode c_De_become 38 = .ok (.putfield 18, 3) := by decide +kernel
theorem d_De_become_41 : decode c_De_become 41 = .ok (.goto 3, 3) := by decide +kernel
theorem d_De_become_44 : decode c_De_become 44 = .ok (.return_, 1) := by decide +kernel
theorem C_De_become_0 {M : MM} {r : Nat} {t : Int32} (hr : SH[r]? = some (0, 0)) : AF y_De_become c_De_become 3 none 1 [vR r, vI 0, vI t] (M) (none) (upM M r 0 t) := by
  refine AF.of k_De_become (lo := [some (vR r), some (vI 0), some (vI t)]) rfl (Nat.le_of_ble_eq_true rfl) (fun X hX hR => ?_)
  refine v_iload_n (pc := 0) hX rfl d_De_become_0 ?_
  refine v_top (fun y1 q1 => ?_)
  by_cases e1_0 : y1 = 0
  · subst e1_0
    refine v_look (pc := 1) (tgt := 28) (off := 27) hX d_De_become_1 (by decide) (by decide) rfl ?_
    refine v_aload_n (pc := 28) hX rfl d_De_become_28 ?_
    refine v_iload_n (pc := 29) hX rfl d_De_become_29 ?_
    refine g_putI (pc := 30) hX fl_De_9 rfl (finI rfl rfl) (by assumption) rfl rfl d_De_become_30 ?_
    refine v_goto (pc := 33) (tgt := 44) hX d_De_become_33 rfl ?_
    exact f_vret (pc := 44) hX hR (rfl) d_De_become_44
  exact False.elim (e1_0 q1.symm)
theorem C_De_become_2 {M : MM} {r : Nat} {t : Int32} (hr : SH[r]? = some (0, 0)) : AF y_De_become c_De_become 3 none 1 [vR r, vI 2, vI t] (M) (none) (upM M r 2 t) := by
  refine AF.of k_De_become (lo := [some (vR r), some (vI 2), some (vI t)]) rfl (Nat.le_of_ble_eq_true rfl) (fun X hX hR => ?_)
  refine v_iload_n (pc := 0) hX rfl d_De_become_0 ?_
  refine v_top (fun y1 q1 => ?_)
  by_cases e1_2 : y1 = 2
  · subst e1_2
    refine v_look (pc := 1) (tgt := 36) (off := 35) hX d_De_become_1 (by decide) (by decide) rfl ?_
    refine v_aload_n (pc := 36) hX rfl d_De_become_36 ?_
    refine v_iload_n (pc := 37) hX rfl d_De_become_37 ?_
    refine g_putI (pc := 38) hX fl_De_18 rfl (finI rfl rfl) (by assumption) rfl rfl d_De_become_38 ?_
    refine v_goto (pc := 41) (tgt := 44) hX d_De_become_41 rfl ?_
    exact f_vret (pc := 44) hX hR (rfl) d_De_become_44
  exact False.elim (e1_2 q1.symm)
theorem d_De_decidesBy_0 : decode c_De_decidesBy 0 = .ok (.aload_n 1, 1) := by decide +kernel
theorem d_De_decidesBy_1 : decode c_De_decidesBy 1 = .ok (.aload_n 0, 1) := by decide +kernel
theorem d_De_decidesBy_2 : decode c_De_decidesBy 2 = .ok (.getfield 15, 3) := by decide +kernel
theorem d_De_decidesBy_5 : decode c_De_decidesBy 5 = .ok (.invokevirtual 24, 3) := by decide +kernel
theorem d_De_decidesBy_8 : decode c_De_decidesBy 8 = .ok (.aload_n 0, 1) := by decide +kernel
theorem d_De_decidesBy_9 : decode c_De_decidesBy 9 = .ok (.getfield 9, 3) := by decide +kernel
theorem d_De_decidesBy_12 : decode c_De_decidesBy 12 = .ok (.if_icmp .lt 7, 3) := by decide +kernel
theorem d_De_decidesBy_15 : decode c_De_decidesBy 15 = .ok (.iconst 1, 1) := by decide +kernel
theorem d_De_decidesBy_16 : decode c_De_decidesBy 16 = .ok (.goto 4, 3) := by decide +kernel
theorem d_De_decidesBy_19 : decode c_De_decidesBy 19 = .ok (.iconst 0, 1) := by decide +kernel
theorem d_De_decidesBy_20 : decode c_De_decidesBy 20 = .ok (.ireturn, 1) := by decide +kernel
theorem C_De_decidesBy {M : MM} {r j : Nat} (hr : SH[r]? = some (0, 0)) (hj : SH[j]? = some (0, 1)) : AF y_De_decidesBy c_De_decidesBy 2 (some .boolean) 4 [vR r, vR j] (M) (some (vI (bI (decide (M r 0 ≤ mkM (M j 0) (M j 1) (M j 2) (M r 1)))))) (M) := by
  refine AF.of k_De_decidesBy (lo := [some (vR r), some (vR j)]) rfl (Nat.le_of_ble_eq_true rfl) (fun X hX hR => ?_)
  refine v_aload_n (pc := 0) hX rfl d_De_decidesBy_0 ?_
  refine v_aload_n (pc := 1) hX rfl d_De_decidesBy_1 ?_
  refine g_getI (pc := 2) hX fl_De_15 rfl (by assumption) d_De_decidesBy_2 ?_
  refine f_callV (pc := 5) hX k_Ja_markIn ki_Ja_markIn kv_Ja_markIn ml_De_24 (C_Ja_markIn (by assumption)) (by assumption) rfl rfl rfl rfl (Nat.le_of_ble_eq_true rfl) (Nat.le_of_ble_eq_true rfl) (Nat.le_of_ble_eq_true rfl) d_De_decidesBy_5 ?_
  refine v_aload_n (pc := 8) hX rfl d_De_decidesBy_8 ?_
  refine g_getI (pc := 9) hX fl_De_9 rfl (by assumption) d_De_decidesBy_9 ?_
  refine v_icmp_lt (pc := 12) (tgt := 19) hX d_De_decidesBy_12 rfl (fun h12 => ?_) (fun h12 => ?_)
  · refine v_iconst (pc := 19) (v := 0) hX (by decide) d_De_decidesBy_19 ?_
    exact f_zret (pc := 20) hX hR (by first | exact bT (decide_eq_true (by simp only [lt32, le32, eq32, q_0, q_1, q_2, q_3, q_4, q_5, q_6, q_7, q_8, q_9, q_10, q_11, q_12, q_15, q_16, q_20, q_21, q_23, q_24, q_29, q_31, q_44, q_48, q_59, q_60, q_61, q_63, q_99, q_100, q_108, q_112, q_116, q_119, q_240, q_m1, q_m9] at *; omega)) | exact bF (decide_eq_false (by simp only [lt32, le32, eq32, q_0, q_1, q_2, q_3, q_4, q_5, q_6, q_7, q_8, q_9, q_10, q_11, q_12, q_15, q_16, q_20, q_21, q_23, q_24, q_29, q_31, q_44, q_48, q_59, q_60, q_61, q_63, q_99, q_100, q_108, q_112, q_116, q_119, q_240, q_m1, q_m9] at *; omega))) (rfl) d_De_decidesBy_20
  · refine v_iconst (pc := 15) (v := 1) hX (by decide) d_De_decidesBy_15 ?_
    refine v_goto (pc := 16) (tgt := 20) hX d_De_decidesBy_16 rfl ?_
    exact f_zret (pc := 20) hX hR (by first | exact bT (decide_eq_true (by simp only [lt32, le32, eq32, q_0, q_1, q_2, q_3, q_4, q_5, q_6, q_7, q_8, q_9, q_10, q_11, q_12, q_15, q_16, q_20, q_21, q_23, q_24, q_29, q_31, q_44, q_48, q_59, q_60, q_61, q_63, q_99, q_100, q_108, q_112, q_116, q_119, q_240, q_m1, q_m9] at *; omega)) | exact bF (decide_eq_false (by simp only [lt32, le32, eq32, q_0, q_1, q_2, q_3, q_4, q_5, q_6, q_7, q_8, q_9, q_10, q_11, q_12, q_15, q_16, q_20, q_21, q_23, q_24, q_29, q_31, q_44, q_48, q_59, q_60, q_61, q_63, q_99, q_100, q_108, q_112, q_116, q_119, q_240, q_m1, q_m9] at *; omega))) (rfl) d_De_decidesBy_20
end
section
/-! Sheets, the teller, members of the JDK. -/
def fillM (M : MM) (c : Nat) (v : Int32) (k : Nat) : MM := fun a i => if a = c ∧ i < k then v else M a i
theorem fillM_0 (M : MM) (c : Nat) (v : Int32) : fillM M c v 0 = M := by
  funext a i
  simp [fillM]
theorem fillM_s (M : MM) (c : Nat) (v : Int32) (k : Nat) : fillM M c v (k + 1) = upM (fillM M c v k) c k v := by
  funext a i
  simp only [fillM, upM]
  by_cases h : a = c ∧ i = k
  · rw [if_pos ⟨h.1, by omega⟩, if_pos h]
  · rw [if_neg h]
    by_cases h2 : a = c ∧ i < k
    · rw [if_pos h2, if_pos ⟨h2.1, by omega⟩]
    · rw [if_neg h2, if_neg (by omega)]
def hcB (len i n : Int32) : Bool := decide (0 ≤ i) && (decide (i ≤ len) && (decide (0 ≤ n) && decide (n ≤ len - i)))
def fltM (f : Nat → Int32) (ln i n : Int32) : Int32 := if f 1 = 0 then 1 else if ¬ ln = f 2 then 2 else if n < 0 then 4 else if hcB (f 3) i n = true then 0 else 3
def cutM (ln v : Int32) : Int32 := if ln = 0 then v.toInt8.toInt32 else if ln = 1 then v.toInt16.toInt32 else v
def jbc1 (x : Int32) : Int32 := x - ((x.toUInt32 >>> ((1 : Int32).toUInt32 &&& Int32.toUInt32 31)).toInt32 &&& 1431655765)
def jbc2 (x : Int32) : Int32 := (x &&& 858993459) + ((x.toUInt32 >>> ((2 : Int32).toUInt32 &&& Int32.toUInt32 31)).toInt32 &&& 858993459)
def jbc3 (x : Int32) : Int32 := (x + (x.toUInt32 >>> ((4 : Int32).toUInt32 &&& Int32.toUInt32 31)).toInt32) &&& 252645135
def jbc4 (x : Int32) : Int32 := x + (x.toUInt32 >>> ((8 : Int32).toUInt32 &&& Int32.toUInt32 31)).toInt32
def jbc5 (x : Int32) : Int32 := x + (x.toUInt32 >>> ((16 : Int32).toUInt32 &&& Int32.toUInt32 31)).toInt32
def jbc (x : Int32) : Int32 := jbc5 (jbc4 (jbc3 (jbc2 (jbc1 x)))) &&& 63
def pop : Nat → Nat → Nat
  | 0, _ => 0
  | k + 1, s => pop k s + (s / 2 ^ k) % 2
theorem jbc_pop : ∀ s, s < 64 → jbc (i3 s) = i3 (pop 6 s) := by decide +kernel
theorem d_jA_fill_0 : decode c_jA_fill 0 = .ok (.iconst 0, 1) := by decide +kernel
theorem d_jA_fill_1 : decode c_jA_fill 1 = .ok (.istore_n 2, 1) := by decide +kernel
theorem d_jA_fill_2 : decode c_jA_fill 2 = .ok (.aload_n 0, 1) := by decide +kernel
theorem d_jA_fill_3 : decode c_jA_fill 3 = .ok (.arraylength, 1) := by decide +kernel
theorem d_jA_fill_4 : decode c_jA_fill 4 = .ok (.istore_n 3, 1) := by decide +kernel
theorem d_jA_fill_5 : decode c_jA_fill 5 = .ok (.iload_n 2, 1) := by decide +kernel
theorem d_jA_fill_6 : decode c_jA_fill 6 = .ok (.iload_n 3, 1) := by decide +kernel
theorem d_jA_fill_7 : decode c_jA_fill 7 = .ok (.if_icmp .ge 13, 3) := by decide +kernel
theorem d_jA_fill_10 : decode c_jA_fill 10 = .ok (.aload_n 0, 1) := by decide +kernel
theorem d_jA_fill_11 : decode c_jA_fill 11 = .ok (.iload_n 2, 1) := by decide +kernel
theorem d_jA_fill_12 : decode c_jA_fill 12 = .ok (.iload_n 1, 1) := by decide +kernel
theorem d_jA_fill_13 : decode c_jA_fill 13 = .ok (.iastore, 1) := by decide +kernel
theorem d_jA_fill_14 : decode c_jA_fill 14 = .ok (.iinc 2 1, 3) := by decide +kernel
theorem d_jA_fill_17 : decode c_jA_fill 17 = .ok (.goto (-12), 3) := by decide +kernel
theorem d_jA_fill_20 : decode c_jA_fill 20 = .ok (.return_, 1) := by decide +kernel
theorem C_jA_fill {M : MM} {c : Nat} {v : Int32} (hc : SH[c]? = some (1, 60)) : AF y_jA_fill c_jA_fill 4 none 1 [vR c, vI v] (M) (none) (fillM M c v 60) := by
  refine AF.of k_jA_fill (lo := [some (vR c), some (vI v), none, none]) rfl (Nat.le_of_ble_eq_true rfl) (fun X hX hR => ?_)
  refine v_iconst (pc := 0) (v := 0) hX (by decide) d_jA_fill_0 ?_
  refine v_istore_n (pc := 1) (lo' := [some (vR _), some (vI _), some (vI _), none]) hX (Nat.le_of_ble_eq_true rfl) rfl d_jA_fill_1 ?_
  refine v_aload_n (pc := 2) hX rfl d_jA_fill_2 ?_
  refine g_alen (pc := 3) hX (by assumption) (by decide) rfl d_jA_fill_3 ?_
  refine v_istore_n (pc := 4) (lo' := [some (vR _), some (vI _), some (vI _), some (vI _)]) hX (Nat.le_of_ble_eq_true rfl) rfl d_jA_fill_4 ?_
  refine VW.cast (lo' := [some (vR c), some (vI v), some (vI (i3 0)), some (vI (i3 60))]) (st' := []) (G' := gM (fillM M c v 0)) rfl rfl (by rw [fillM_0]) ?_
  refine v_for (X := X) (head := 5) (60) (fun kk => [some (vR c), some (vI v), some (vI (i3 kk)), some (vI (i3 60))]) (fun kk => fillM M c v kk) (fun k hk ih5 => ?_) ?_
  · show VW X 5 [some (vR c), some (vI v), some (vI (i3 k)), some (vI (i3 60))] [] (gM (fillM M c v k))
    refine v_iload_n (pc := 5) hX rfl d_jA_fill_5 ?_
    refine v_iload_n (pc := 6) hX rfl d_jA_fill_6 ?_
    refine v_icmp_ge (pc := 7) (tgt := 20) hX d_jA_fill_7 rfl (fun h7 => False.elim (i3_ge_abs hk (by decide) h7)) (fun h7 => ?_)
    refine v_aload_n (pc := 10) hX rfl d_jA_fill_10 ?_
    refine v_iload_n (pc := 11) hX rfl d_jA_fill_11 ?_
    refine v_iload_n (pc := 12) hX rfl d_jA_fill_12 ?_
    refine g_iast (pc := 13) hX (by assumption) (IX.of hk (by decide)) d_jA_fill_13 ?_
    refine v_iinc (pc := 14) (lo' := [some (vR _), some (vI _), some (vI _), some (vI _)]) hX rfl rfl d_jA_fill_14 ?_
    refine v_goto (pc := 17) (tgt := 5) hX d_jA_fill_17 rfl ?_
    exact VW.cast (by rw [i3_succ]; rfl) rfl (by rw [fillM_s]) ih5
  · show VW X 5 [some (vR c), some (vI v), some (vI (i3 (60))), some (vI (i3 60))] [] (gM (fillM M c v (60)))
    refine v_iload_n (pc := 5) hX rfl d_jA_fill_5 ?_
    refine v_iload_n (pc := 6) hX rfl d_jA_fill_6 ?_
    refine v_icmp_ge (pc := 7) (tgt := 20) hX d_jA_fill_7 rfl (fun h7 => ?_) (fun h7 => False.elim (by revert h7; decide))
    exact f_vret (pc := 20) hX hR (rfl) d_jA_fill_20
theorem d_jI_bitCount_0 : decode c_jI_bitCount 0 = .ok (.iload_n 0, 1) := by decide +kernel
theorem d_jI_bitCount_1 : decode c_jI_bitCount 1 = .ok (.iload_n 0, 1) := by decide +kernel
theorem d_jI_bitCount_2 : decode c_jI_bitCount 2 = .ok (.iconst 1, 1) := by decide +kernel
theorem d_jI_bitCount_3 : decode c_jI_bitCount 3 = .ok (.iushr, 1) := by decide +kernel
theorem d_jI_bitCount_4 : decode c_jI_bitCount 4 = .ok (.ldc_w 265, 3) := by decide +kernel
theorem d_jI_bitCount_7 : decode c_jI_bitCount 7 = .ok (.iand, 1) := by decide +kernel
theorem d_jI_bitCount_8 : decode c_jI_bitCount 8 = .ok (.isub, 1) := by decide +kernel
theorem d_jI_bitCount_9 : decode c_jI_bitCount 9 = .ok (.istore_n 0, 1) := by decide +kernel
theorem d_jI_bitCount_10 : decode c_jI_bitCount 10 = .ok (.iload_n 0, 1) := by decide +kernel
theorem d_jI_bitCount_11 : decode c_jI_bitCount 11 = .ok (.ldc_w 266, 3) := by decide +kernel
theorem d_jI_bitCount_14 : decode c_jI_bitCount 14 = .ok (.iand, 1) := by decide +kernel
theorem d_jI_bitCount_15 : decode c_jI_bitCount 15 = .ok (.iload_n 0, 1) := by decide +kernel
theorem d_jI_bitCount_16 : decode c_jI_bitCount 16 = .ok (.iconst 2, 1) := by decide +kernel
theorem d_jI_bitCount_17 : decode c_jI_bitCount 17 = .ok (.iushr, 1) := by decide +kernel
theorem d_jI_bitCount_18 : decode c_jI_bitCount 18 = .ok (.ldc_w 266, 3) := by decide +kernel
theorem d_jI_bitCount_21 : decode c_jI_bitCount 21 = .ok (.iand, 1) := by decide +kernel
theorem d_jI_bitCount_22 : decode c_jI_bitCount 22 = .ok (.iadd, 1) := by decide +kernel
theorem d_jI_bitCount_23 : decode c_jI_bitCount 23 = .ok (.istore_n 0, 1) := by decide +kernel
theorem d_jI_bitCount_24 : decode c_jI_bitCount 24 = .ok (.iload_n 0, 1) := by decide +kernel
theorem d_jI_bitCount_25 : decode c_jI_bitCount 25 = .ok (.iload_n 0, 1) := by decide +kernel
theorem d_jI_bitCount_26 : decode c_jI_bitCount 26 = .ok (.iconst 4, 1) := by decide +kernel
theorem d_jI_bitCount_27 : decode c_jI_bitCount 27 = .ok (.iushr, 1) := by decide +kernel
theorem d_jI_bitCount_28 : decode c_jI_bitCount 28 = .ok (.iadd, 1) := by decide +kernel
theorem d_jI_bitCount_29 : decode c_jI_bitCount 29 = .ok (.ldc_w 267, 3) := by decide +kernel
theorem d_jI_bitCount_32 : decode c_jI_bitCount 32 = .ok (.iand, 1) := by decide +kernel
theorem d_jI_bitCount_33 : decode c_jI_bitCount 33 = .ok (.istore_n 0, 1) := by decide +kernel
theorem d_jI_bitCount_34 : decode c_jI_bitCount 34 = .ok (.iload_n 0, 1) := by decide +kernel
theorem d_jI_bitCount_35 : decode c_jI_bitCount 35 = .ok (.iload_n 0, 1) := by decide +kernel
theorem d_jI_bitCount_36 : decode c_jI_bitCount 36 = .ok (.bipush 8, 2) := by decide +kernel
theorem d_jI_bitCount_38 : decode c_jI_bitCount 38 = .ok (.iushr, 1) := by decide +kernel
theorem d_jI_bitCount_39 : decode c_jI_bitCount 39 = .ok (.iadd, 1) := by decide +kernel
theorem d_jI_bitCount_40 : decode c_jI_bitCount 40 = .ok (.istore_n 0, 1) := by decide +kernel
theorem d_jI_bitCount_41 : decode c_jI_bitCount 41 = .ok (.iload_n 0, 1) := by decide +kernel
theorem d_jI_bitCount_42 : decode c_jI_bitCount 42 = .ok (.iload_n 0, 1) := by decide +kernel
theorem d_jI_bitCount_43 : decode c_jI_bitCount 43 = .ok (.bipush 16, 2) := by decide +kernel
theorem d_jI_bitCount_45 : decode c_jI_bitCount 45 = .ok (.iushr, 1) := by decide +kernel
theorem d_jI_bitCount_46 : decode c_jI_bitCount 46 = .ok (.iadd, 1) := by decide +kernel
theorem d_jI_bitCount_47 : decode c_jI_bitCount 47 = .ok (.istore_n 0, 1) := by decide +kernel
theorem d_jI_bitCount_48 : decode c_jI_bitCount 48 = .ok (.iload_n 0, 1) := by decide +kernel
theorem d_jI_bitCount_49 : decode c_jI_bitCount 49 = .ok (.bipush 63, 2) := by decide +kernel
theorem d_jI_bitCount_51 : decode c_jI_bitCount 51 = .ok (.iand, 1) := by decide +kernel
theorem d_jI_bitCount_52 : decode c_jI_bitCount 52 = .ok (.ireturn, 1) := by decide +kernel
theorem C_jI_bitCount {M : MM} {v : Int32} : AF y_jI_bitCount c_jI_bitCount 1 (some .int) 1 [vI v] (M) (some (vI (jbc v))) (M) := by
  refine AF.of k_jI_bitCount (lo := [some (vI v)]) rfl (Nat.le_of_ble_eq_true rfl) (fun X hX hR => ?_)
  refine v_iload_n (pc := 0) hX rfl d_jI_bitCount_0 ?_
  refine v_iload_n (pc := 1) hX rfl d_jI_bitCount_1 ?_
  refine v_iconst (pc := 2) (v := 1) hX (by decide) d_jI_bitCount_2 ?_
  refine v_iushr (pc := 3) hX d_jI_bitCount_3 ?_
  refine v_ldc_w (pc := 4) hX kc_jI_265 d_jI_bitCount_4 ?_
  refine v_iand (pc := 7) hX d_jI_bitCount_7 ?_
  refine v_isub (pc := 8) hX d_jI_bitCount_8 ?_
  refine v_istore_n (pc := 9) (lo' := [some (vI _)]) hX (Nat.le_of_ble_eq_true rfl) rfl d_jI_bitCount_9 ?_
  refine v_iload_n (pc := 10) hX rfl d_jI_bitCount_10 ?_
  refine v_ldc_w (pc := 11) hX kc_jI_266 d_jI_bitCount_11 ?_
  refine v_iand (pc := 14) hX d_jI_bitCount_14 ?_
  refine v_iload_n (pc := 15) hX rfl d_jI_bitCount_15 ?_
  refine v_iconst (pc := 16) (v := 2) hX (by decide) d_jI_bitCount_16 ?_
  refine v_iushr (pc := 17) hX d_jI_bitCount_17 ?_
  refine v_ldc_w (pc := 18) hX kc_jI_266 d_jI_bitCount_18 ?_
  refine v_iand (pc := 21) hX d_jI_bitCount_21 ?_
  refine v_iadd (pc := 22) hX d_jI_bitCount_22 ?_
  refine v_istore_n (pc := 23) (lo' := [some (vI _)]) hX (Nat.le_of_ble_eq_true rfl) rfl d_jI_bitCount_23 ?_
  refine v_iload_n (pc := 24) hX rfl d_jI_bitCount_24 ?_
  refine v_iload_n (pc := 25) hX rfl d_jI_bitCount_25 ?_
  refine v_iconst (pc := 26) (v := 4) hX (by decide) d_jI_bitCount_26 ?_
  refine v_iushr (pc := 27) hX d_jI_bitCount_27 ?_
  refine v_iadd (pc := 28) hX d_jI_bitCount_28 ?_
  refine v_ldc_w (pc := 29) hX kc_jI_267 d_jI_bitCount_29 ?_
  refine v_iand (pc := 32) hX d_jI_bitCount_32 ?_
  refine v_istore_n (pc := 33) (lo' := [some (vI _)]) hX (Nat.le_of_ble_eq_true rfl) rfl d_jI_bitCount_33 ?_
  refine v_iload_n (pc := 34) hX rfl d_jI_bitCount_34 ?_
  refine v_iload_n (pc := 35) hX rfl d_jI_bitCount_35 ?_
  refine v_bipush (pc := 36) (v := 8) hX (by decide) d_jI_bitCount_36 ?_
  refine v_iushr (pc := 38) hX d_jI_bitCount_38 ?_
  refine v_iadd (pc := 39) hX d_jI_bitCount_39 ?_
  refine v_istore_n (pc := 40) (lo' := [some (vI _)]) hX (Nat.le_of_ble_eq_true rfl) rfl d_jI_bitCount_40 ?_
  refine v_iload_n (pc := 41) hX rfl d_jI_bitCount_41 ?_
  refine v_iload_n (pc := 42) hX rfl d_jI_bitCount_42 ?_
  refine v_bipush (pc := 43) (v := 16) hX (by decide) d_jI_bitCount_43 ?_
  refine v_iushr (pc := 45) hX d_jI_bitCount_45 ?_
  refine v_iadd (pc := 46) hX d_jI_bitCount_46 ?_
  refine v_istore_n (pc := 47) (lo' := [some (vI _)]) hX (Nat.le_of_ble_eq_true rfl) rfl d_jI_bitCount_47 ?_
  refine v_iload_n (pc := 48) hX rfl d_jI_bitCount_48 ?_
  refine v_bipush (pc := 49) (v := 63) hX (by decide) d_jI_bitCount_49 ?_
  refine v_iand (pc := 51) hX d_jI_bitCount_51 ?_
  exact f_iret (pc := 52) hX hR (rfl) (rfl) d_jI_bitCount_52
theorem d_Sh_begin_0 : decode c_Sh_begin 0 = .ok (.aload_n 0, 1) := by decide +kernel
theorem d_Sh_begin_1 : decode c_Sh_begin 1 = .ok (.iconst 1, 1) := by decide +kernel
theorem d_Sh_begin_2 : decode c_Sh_begin 2 = .ok (.putfield 15, 3) := by decide +kernel
theorem d_Sh_begin_5 : decode c_Sh_begin 5 = .ok (.aload_n 0, 1) := by decide +kernel
theorem d_Sh_begin_6 : decode c_Sh_begin 6 = .ok (.iload_n 1, 1) := by decide +kernel
theorem d_Sh_begin_7 : decode c_Sh_begin 7 = .ok (.putfield 19, 3) := by decide +kernel
theorem d_Sh_begin_10 : decode c_Sh_begin 10 = .ok (.aload_n 0, 1) := by decide +kernel
theorem d_Sh_begin_11 : decode c_Sh_begin 11 = .ok (.iload_n 2, 1) := by decide +kernel
theorem d_Sh_begin_12 : decode c_Sh_begin 12 = .ok (.putfield 23, 3) := by decide +kernel
theorem d_Sh_begin_15 : decode c_Sh_begin 15 = .ok (.aload_n 0, 1) := by decide +kernel
theorem d_Sh_begin_16 : decode c_Sh_begin 16 = .ok (.getfield 9, 3) := by decide +kernel
theorem d_Sh_begin_19 : decode c_Sh_begin 19 = .ok (.iconst 0, 1) := by decide +kernel
theorem d_Sh_begin_20 : decode c_Sh_begin 20 = .ok (.invokestatic 26, 3) := by decide +kernel
theorem d_Sh_begin_23 : decode c_Sh_begin 23 = .ok (.return_, 1) := by decide +kernel
theorem C_Sh_begin {M : MM} {r c : Nat} {a b : Int32} (hr : SH[r]? = some (0, 5)) (hn : NF r 0 = c) (hc : SH[c]? = some (1, 60)) : AF y_Sh_begin c_Sh_begin 3 none 2 [vR r, vI a, vI b] (M) (none) (fillM (upM (upM (upM M r 1 1) r 2 a) r 3 b) c 0 60) := by
  refine AF.of k_Sh_begin (lo := [some (vR r), some (vI a), some (vI b)]) rfl (Nat.le_of_ble_eq_true rfl) (fun X hX hR => ?_)
  refine v_aload_n (pc := 0) hX rfl d_Sh_begin_0 ?_
  refine v_iconst (pc := 1) (v := 1) hX (by decide) d_Sh_begin_1 ?_
  refine g_putI (pc := 2) hX fl_Sh_15 rfl (finI rfl rfl) (by assumption) rfl rfl d_Sh_begin_2 ?_
  refine v_aload_n (pc := 5) hX rfl d_Sh_begin_5 ?_
  refine v_iload_n (pc := 6) hX rfl d_Sh_begin_6 ?_
  refine g_putI (pc := 7) hX fl_Sh_19 rfl (finI rfl rfl) (by assumption) rfl rfl d_Sh_begin_7 ?_
  refine v_aload_n (pc := 10) hX rfl d_Sh_begin_10 ?_
  refine v_iload_n (pc := 11) hX rfl d_Sh_begin_11 ?_
  refine g_putI (pc := 12) hX fl_Sh_23 rfl (finI rfl rfl) (by assumption) rfl rfl d_Sh_begin_12 ?_
  refine v_aload_n (pc := 15) hX rfl d_Sh_begin_15 ?_
  refine g_getR (pc := 16) hX fl_Sh_9 rfl (by assumption) (by assumption) d_Sh_begin_16 ?_
  refine v_iconst (pc := 19) (v := 0) hX (by decide) d_Sh_begin_19 ?_
  refine f_callS0 (pc := 20) hX k_jA_fill ks_jA_fill ml_Sh_26 (C_jA_fill (by assumption)) rfl rfl rfl (Nat.le_of_ble_eq_true rfl) (Nat.le_of_ble_eq_true rfl) (Nat.le_of_ble_eq_true rfl) d_Sh_begin_20 ?_
  exact f_vret (pc := 23) hX hR (rfl) d_Sh_begin_23
theorem d_Sh_hasCells_0 : decode c_Sh_hasCells 0 = .ok (.iload_n 1, 1) := by decide +kernel
theorem d_Sh_hasCells_1 : decode c_Sh_hasCells 1 = .ok (.ifCond .lt 29, 3) := by decide +kernel
theorem d_Sh_hasCells_4 : decode c_Sh_hasCells 4 = .ok (.iload_n 1, 1) := by decide +kernel
theorem d_Sh_hasCells_5 : decode c_Sh_hasCells 5 = .ok (.aload_n 0, 1) := by decide +kernel
theorem d_Sh_hasCells_6 : decode c_Sh_hasCells 6 = .ok (.getfield 23, 3) := by decide +kernel
theorem d_Sh_hasCells_9 : decode c_Sh_hasCells 9 = .ok (.if_icmp .gt 21, 3) := by decide +kernel
theorem d_Sh_hasCells_12 : decode c_Sh_hasCells 12 = .ok (.iload_n 2, 1) := by decide +kernel
theorem d_Sh_hasCells_13 : decode c_Sh_hasCells 13 = .ok (.ifCond .lt 17, 3) := by decide +kernel
theorem d_Sh_hasCells_16 : decode c_Sh_hasCells 16 = .ok (.iload_n 2, 1) := by decide +kernel
theorem d_Sh_hasCells_17 : decode c_Sh_hasCells 17 = .ok (.aload_n 0, 1) := by decide +kernel
theorem d_Sh_hasCells_18 : decode c_Sh_hasCells 18 = .ok (.getfield 23, 3) := by decide +kernel
theorem d_Sh_hasCells_21 : decode c_Sh_hasCells 21 = .ok (.iload_n 1, 1) := by decide +kernel
theorem d_Sh_hasCells_22 : decode c_Sh_hasCells 22 = .ok (.isub, 1) := by decide +kernel
theorem d_Sh_hasCells_23 : decode c_Sh_hasCells 23 = .ok (.if_icmp .gt 7, 3) := by decide +kernel
theorem d_Sh_hasCells_26 : decode c_Sh_hasCells 26 = .ok (.iconst 1, 1) := by decide +kernel
theorem d_Sh_hasCells_27 : decode c_Sh_hasCells 27 = .ok (.goto 4, 3) := by decide +kernel
theorem d_Sh_hasCells_30 : decode c_Sh_hasCells 30 = .ok (.iconst 0, 1) := by decide +kernel
theorem d_Sh_hasCells_31 : decode c_Sh_hasCells 31 = .ok (.ireturn, 1) := by decide +kernel
theorem C_Sh_hasCells {M : MM} {r : Nat} {i n : Int32} (hr : SH[r]? = some (0, 5)) : AF y_Sh_hasCells c_Sh_hasCells 3 (some .boolean) 1 [vR r, vI i, vI n] (M) (some (vI (bI (hcB (M r 3) i n)))) (M) := by
  refine AF.of k_Sh_hasCells (lo := [some (vR r), some (vI i), some (vI n)]) rfl (Nat.le_of_ble_eq_true rfl) (fun X hX hR => ?_)
  refine v_iload_n (pc := 0) hX rfl d_Sh_hasCells_0 ?_
  refine v_if_lt (pc := 1) (tgt := 30) hX d_Sh_hasCells_1 rfl (fun h1 => ?_) (fun h1 => ?_)
  · refine v_iconst (pc := 30) (v := 0) hX (by decide) d_Sh_hasCells_30 ?_
    exact f_zret (pc := 31) hX hR (by first | exact bT (by unfold hcB; simp only [Bool.and_eq_true, decide_eq_true_eq]; simp only [Int32.not_lt] at *; exact ⟨by assumption, by assumption, by assumption, by assumption⟩) | exact bF (by unfold hcB; simp only [Bool.and_eq_false_iff, decide_eq_false_iff_not, lt32, le32, q_0] at *; omega)) (rfl) d_Sh_hasCells_31
  · refine v_iload_n (pc := 4) hX rfl d_Sh_hasCells_4 ?_
    refine v_aload_n (pc := 5) hX rfl d_Sh_hasCells_5 ?_
    refine g_getI (pc := 6) hX fl_Sh_23 rfl (by assumption) d_Sh_hasCells_6 ?_
    refine v_icmp_gt (pc := 9) (tgt := 30) hX d_Sh_hasCells_9 rfl (fun h9 => ?_) (fun h9 => ?_)
    · refine v_iconst (pc := 30) (v := 0) hX (by decide) d_Sh_hasCells_30 ?_
      exact f_zret (pc := 31) hX hR (by first | exact bT (by unfold hcB; simp only [Bool.and_eq_true, decide_eq_true_eq]; simp only [Int32.not_lt] at *; exact ⟨by assumption, by assumption, by assumption, by assumption⟩) | exact bF (by unfold hcB; simp only [Bool.and_eq_false_iff, decide_eq_false_iff_not, lt32, le32, q_0] at *; omega)) (rfl) d_Sh_hasCells_31
    · refine v_iload_n (pc := 12) hX rfl d_Sh_hasCells_12 ?_
      refine v_if_lt (pc := 13) (tgt := 30) hX d_Sh_hasCells_13 rfl (fun h13 => ?_) (fun h13 => ?_)
      · refine v_iconst (pc := 30) (v := 0) hX (by decide) d_Sh_hasCells_30 ?_
        exact f_zret (pc := 31) hX hR (by first | exact bT (by unfold hcB; simp only [Bool.and_eq_true, decide_eq_true_eq]; simp only [Int32.not_lt] at *; exact ⟨by assumption, by assumption, by assumption, by assumption⟩) | exact bF (by unfold hcB; simp only [Bool.and_eq_false_iff, decide_eq_false_iff_not, lt32, le32, q_0] at *; omega)) (rfl) d_Sh_hasCells_31
      · refine v_iload_n (pc := 16) hX rfl d_Sh_hasCells_16 ?_
        refine v_aload_n (pc := 17) hX rfl d_Sh_hasCells_17 ?_
        refine g_getI (pc := 18) hX fl_Sh_23 rfl (by assumption) d_Sh_hasCells_18 ?_
        refine v_iload_n (pc := 21) hX rfl d_Sh_hasCells_21 ?_
        refine v_isub (pc := 22) hX d_Sh_hasCells_22 ?_
        refine v_icmp_gt (pc := 23) (tgt := 30) hX d_Sh_hasCells_23 rfl (fun h23 => ?_) (fun h23 => ?_)
        · refine v_iconst (pc := 30) (v := 0) hX (by decide) d_Sh_hasCells_30 ?_
          exact f_zret (pc := 31) hX hR (by first | exact bT (by unfold hcB; simp only [Bool.and_eq_true, decide_eq_true_eq]; simp only [Int32.not_lt] at *; exact ⟨by assumption, by assumption, by assumption, by assumption⟩) | exact bF (by unfold hcB; simp only [Bool.and_eq_false_iff, decide_eq_false_iff_not, lt32, le32, q_0] at *; omega)) (rfl) d_Sh_hasCells_31
        · refine v_iconst (pc := 26) (v := 1) hX (by decide) d_Sh_hasCells_26 ?_
          refine v_goto (pc := 27) (tgt := 31) hX d_Sh_hasCells_27 rfl ?_
          exact f_zret (pc := 31) hX hR (by first | exact bT (by unfold hcB; simp only [Bool.and_eq_true, decide_eq_true_eq]; simp only [Int32.not_lt] at *; exact ⟨by assumption, by assumption, by assumption, by assumption⟩) | exact bF (by unfold hcB; simp only [Bool.and_eq_false_iff, decide_eq_false_iff_not, lt32, le32, q_0] at *; omega)) (rfl) d_Sh_hasCells_31
theorem d_Sh_faultOf_0 : decode c_Sh_faultOf 0 = .ok (.aload_n 0, 1) := by decide +kernel
theorem d_Sh_faultOf_1 : decode c_Sh_faultOf 1 = .ok (.getfield 15, 3) := by decide +kernel
theorem d_Sh_faultOf_4 : decode c_Sh_faultOf 4 = .ok (.ifCond .ne 5, 3) := by decide +kernel
theorem d_Sh_faultOf_7 : decode c_Sh_faultOf 7 = .ok (.iconst 1, 1) := by decide +kernel
theorem d_Sh_faultOf_8 : decode c_Sh_faultOf 8 = .ok (.ireturn, 1) := by decide +kernel
theorem d_Sh_faultOf_9 : decode c_Sh_faultOf 9 = .ok (.iload_n 1, 1) := by decide +kernel
theorem d_Sh_faultOf_10 : decode c_Sh_faultOf 10 = .ok (.aload_n 0, 1) := by decide +kernel
theorem d_Sh_faultOf_11 : decode c_Sh_faultOf 11 = .ok (.getfield 19, 3) := by decide +kernel
theorem d_Sh_faultOf_14 : decode c_Sh_faultOf 14 = .ok (.if_icmp .eq 5, 3) := by decide +kernel
theorem d_Sh_faultOf_17 : decode c_Sh_faultOf 17 = .ok (.iconst 2, 1) := by decide +kernel
theorem d_Sh_faultOf_18 : decode c_Sh_faultOf 18 = .ok (.ireturn, 1) := by decide +kernel
theorem d_Sh_faultOf_19 : decode c_Sh_faultOf 19 = .ok (.iload_n 3, 1) := by decide +kernel
theorem d_Sh_faultOf_20 : decode c_Sh_faultOf 20 = .ok (.ifCond .ge 5, 3) := by decide +kernel
theorem d_Sh_faultOf_23 : decode c_Sh_faultOf 23 = .ok (.iconst 4, 1) := by decide +kernel
theorem d_Sh_faultOf_24 : decode c_Sh_faultOf 24 = .ok (.ireturn, 1) := by decide +kernel
theorem d_Sh_faultOf_25 : decode c_Sh_faultOf 25 = .ok (.aload_n 0, 1) := by decide +kernel
theorem d_Sh_faultOf_26 : decode c_Sh_faultOf 26 = .ok (.iload_n 2, 1) := by decide +kernel
theorem d_Sh_faultOf_27 : decode c_Sh_faultOf 27 = .ok (.iload_n 3, 1) := by decide +kernel
theorem d_Sh_faultOf_28 : decode c_Sh_faultOf 28 = .ok (.invokevirtual 32, 3) := by decide +kernel
theorem d_Sh_faultOf_31 : decode c_Sh_faultOf 31 = .ok (.ifCond .eq 7, 3) := by decide +kernel
theorem d_Sh_faultOf_34 : decode c_Sh_faultOf 34 = .ok (.iconst 0, 1) := by decide +kernel
theorem d_Sh_faultOf_35 : decode c_Sh_faultOf 35 = .ok (.goto 4, 3) := by decide +kernel
theorem d_Sh_faultOf_38 : decode c_Sh_faultOf 38 = .ok (.iconst 3, 1) := by decide +kernel
theorem d_Sh_faultOf_39 : decode c_Sh_faultOf 39 = .ok (.ireturn, 1) := by decide +kernel
theorem C_Sh_faultOf {M : MM} {r : Nat} {a i n : Int32} (hr : SH[r]? = some (0, 5)) : AF y_Sh_faultOf c_Sh_faultOf 4 (some .int) 2 [vR r, vI a, vI i, vI n] (M) (some (vI (fltM (M r) a i n))) (M) := by
  refine AF.of k_Sh_faultOf (lo := [some (vR r), some (vI a), some (vI i), some (vI n)]) rfl (Nat.le_of_ble_eq_true rfl) (fun X hX hR => ?_)
  refine v_aload_n (pc := 0) hX rfl d_Sh_faultOf_0 ?_
  refine g_getI (pc := 1) hX fl_Sh_15 rfl (by assumption) d_Sh_faultOf_1 ?_
  refine v_if_ne (pc := 4) (tgt := 9) hX d_Sh_faultOf_4 rfl (fun h4 => ?_) (fun h4 => ?_)
  · refine v_iload_n (pc := 9) hX rfl d_Sh_faultOf_9 ?_
    refine v_aload_n (pc := 10) hX rfl d_Sh_faultOf_10 ?_
    refine g_getI (pc := 11) hX fl_Sh_19 rfl (by assumption) d_Sh_faultOf_11 ?_
    refine v_icmp_eq (pc := 14) (tgt := 19) hX d_Sh_faultOf_14 rfl (fun h14 => ?_) (fun h14 => ?_)
    · refine v_iload_n (pc := 19) hX rfl d_Sh_faultOf_19 ?_
      refine v_if_ge (pc := 20) (tgt := 25) hX d_Sh_faultOf_20 rfl (fun h20 => ?_) (fun h20 => ?_)
      · refine v_aload_n (pc := 25) hX rfl d_Sh_faultOf_25 ?_
        refine v_iload_n (pc := 26) hX rfl d_Sh_faultOf_26 ?_
        refine v_iload_n (pc := 27) hX rfl d_Sh_faultOf_27 ?_
        refine f_callV (pc := 28) hX k_Sh_hasCells ki_Sh_hasCells kv_Sh_hasCells ml_Sh_32 (C_Sh_hasCells (by assumption)) (by assumption) rfl rfl rfl rfl (Nat.le_of_ble_eq_true rfl) (Nat.le_of_ble_eq_true rfl) (Nat.le_of_ble_eq_true rfl) d_Sh_faultOf_28 ?_
        refine f_ifeqB (pc := 31) (tgt := 38) hX d_Sh_faultOf_31 rfl (fun h31 => ?_) (fun h31 => ?_)
        · refine v_iconst (pc := 38) (v := 3) hX (by decide) d_Sh_faultOf_38 ?_
          exact f_iret (pc := 39) hX hR (by simp_all [fltM, Int32.not_lt]) (rfl) d_Sh_faultOf_39
        · refine v_iconst (pc := 34) (v := 0) hX (by decide) d_Sh_faultOf_34 ?_
          refine v_goto (pc := 35) (tgt := 39) hX d_Sh_faultOf_35 rfl ?_
          exact f_iret (pc := 39) hX hR (by simp_all [fltM, Int32.not_lt]) (rfl) d_Sh_faultOf_39
      · refine v_iconst (pc := 23) (v := 4) hX (by decide) d_Sh_faultOf_23 ?_
        exact f_iret (pc := 24) hX hR (by simp_all [fltM, Int32.not_lt]) (rfl) d_Sh_faultOf_24
    · refine v_iconst (pc := 17) (v := 2) hX (by decide) d_Sh_faultOf_17 ?_
      exact f_iret (pc := 18) hX hR (by simp_all [fltM, Int32.not_lt]) (rfl) d_Sh_faultOf_18
  · refine v_iconst (pc := 7) (v := 1) hX (by decide) d_Sh_faultOf_7 ?_
    exact f_iret (pc := 8) hX hR (by simp_all [fltM, Int32.not_lt]) (rfl) d_Sh_faultOf_8
theorem d_Sh_at_0 : decode c_Sh_at 0 = .ok (.iload_n 1, 1) := by decide +kernel
theorem d_Sh_at_1 : decode c_Sh_at 1 = .ok (.bipush 60, 2) := by decide +kernel
theorem d_Sh_at_3 : decode c_Sh_at 3 = .ok (.invokestatic 36, 3) := by decide +kernel
theorem d_Sh_at_6 : decode c_Sh_at 6 = .ok (.ifCond .eq 12, 3) := by decide +kernel
theorem d_Sh_at_9 : decode c_Sh_at 9 = .ok (.aload_n 0, 1) := by decide +kernel
theorem d_Sh_at_10 : decode c_Sh_at 10 = .ok (.getfield 9, 3) := by decide +kernel
theorem d_Sh_at_13 : decode c_Sh_at 13 = .ok (.iload_n 1, 1) := by decide +kernel
theorem d_Sh_at_14 : decode c_Sh_at 14 = .ok (.iaload, 1) := by decide +kernel
theorem d_Sh_at_15 : decode c_Sh_at 15 = .ok (.goto 4, 3) := by decide +kernel
theorem d_Sh_at_18 : decode c_Sh_at 18 = .ok (.iconst 0, 1) := by decide +kernel
theorem d_Sh_at_19 : decode c_Sh_at 19 = .ok (.ireturn, 1) := by decide +kernel
theorem C_Sh_at {M : MM} {r c : Nat} {j : Nat} (hr : SH[r]? = some (0, 5)) (hn : NF r 0 = c) (hc : SH[c]? = some (1, 60)) (hj : j < 60) : AF y_Sh_at c_Sh_at 2 (some .int) 2 [vR r, vI (i3 j)] (M) (some (vI (M c j))) (M) := by
  refine AF.of k_Sh_at (lo := [some (vR r), some (vI (i3 j))]) rfl (Nat.le_of_ble_eq_true rfl) (fun X hX hR => ?_)
  refine v_iload_n (pc := 0) hX rfl d_Sh_at_0 ?_
  refine v_bipush (pc := 1) (v := 60) hX (by decide) d_Sh_at_1 ?_
  refine f_callN (pc := 3) hX k_LJ_isBelow ks_LJ_isBelow (by decide) (C_LJ_isBelow) rfl rfl rfl (Nat.le_of_ble_eq_true rfl) (Nat.le_of_ble_eq_true rfl) (Nat.le_of_ble_eq_true rfl) d_Sh_at_3 ?_
  refine f_ifeqB (pc := 6) (tgt := 18) hX d_Sh_at_6 rfl (fun h6 => False.elim (absurd h6 (by rw [show rg (i3 j) 0 ((60 : Int32).toInt - 1) = true from rg_i3 (n := 60) hj (by decide)]; decide))) (fun h6 => ?_)
  refine v_aload_n (pc := 9) hX rfl d_Sh_at_9 ?_
  refine g_getR (pc := 10) hX fl_Sh_9 rfl (by assumption) (by assumption) d_Sh_at_10 ?_
  refine v_iload_n (pc := 13) hX rfl d_Sh_at_13 ?_
  refine g_iald (pc := 14) hX (by assumption) (IX.of hj (by decide)) d_Sh_at_14 ?_
  refine v_goto (pc := 15) (tgt := 19) hX d_Sh_at_15 rfl ?_
  exact f_iret (pc := 19) hX hR (rfl) (rfl) d_Sh_at_19
theorem d_Sh_cut_0 : decode c_Sh_cut 0 = .ok (.aload_n 0, 1) := by decide +kernel
theorem d_Sh_cut_1 : decode c_Sh_cut 1 = .ok (.getfield 19, 3) := by decide +kernel
theorem d_Sh_cut_4 : decode c_Sh_cut 4 = .ok (.ifCond .ne 6, 3) := by decide +kernel
theorem d_Sh_cut_7 : decode c_Sh_cut 7 = .ok (.iload_n 1, 1) := by decide +kernel
theorem d_Sh_cut_8 : decode c_Sh_cut 8 = .ok (.i2b, 1) := by decide +kernel
theorem d_Sh_cut_9 : decode c_Sh_cut 9 = .ok (.ireturn, 1) := by decide +kernel
theorem d_Sh_cut_10 : decode c_Sh_cut 10 = .ok (.aload_n 0, 1) := by decide +kernel
theorem d_Sh_cut_11 : decode c_Sh_cut 11 = .ok (.getfield 19, 3) := by decide +kernel
theorem d_Sh_cut_14 : decode c_Sh_cut 14 = .ok (.iconst 1, 1) := by decide +kernel
theorem d_Sh_cut_15 : decode c_Sh_cut 15 = .ok (.if_icmp .ne 8, 3) := by decide +kernel
theorem d_Sh_cut_18 : decode c_Sh_cut 18 = .ok (.iload_n 1, 1) := by decide +kernel
theorem d_Sh_cut_19 : decode c_Sh_cut 19 = .ok (.i2s, 1) := by decide +kernel
theorem d_Sh_cut_20 : decode c_Sh_cut 20 = .ok (.goto 4, 3) := by decide +kernel
theorem d_Sh_cut_23 : decode c_Sh_cut 23 = .ok (.iload_n 1, 1) := by decide +kernel
theorem d_Sh_cut_24 : decode c_Sh_cut 24 = .ok (.ireturn, 1) := by decide +kernel
theorem C_Sh_cut {M : MM} {r : Nat} {v : Int32} (hr : SH[r]? = some (0, 5)) : AF y_Sh_cut c_Sh_cut 2 (some .int) 1 [vR r, vI v] (M) (some (vI (cutM (M r 2) v))) (M) := by
  refine AF.of k_Sh_cut (lo := [some (vR r), some (vI v)]) rfl (Nat.le_of_ble_eq_true rfl) (fun X hX hR => ?_)
  refine v_aload_n (pc := 0) hX rfl d_Sh_cut_0 ?_
  refine g_getI (pc := 1) hX fl_Sh_19 rfl (by assumption) d_Sh_cut_1 ?_
  refine v_if_ne (pc := 4) (tgt := 10) hX d_Sh_cut_4 rfl (fun h4 => ?_) (fun h4 => ?_)
  · refine v_aload_n (pc := 10) hX rfl d_Sh_cut_10 ?_
    refine g_getI (pc := 11) hX fl_Sh_19 rfl (by assumption) d_Sh_cut_11 ?_
    refine v_iconst (pc := 14) (v := 1) hX (by decide) d_Sh_cut_14 ?_
    refine v_icmp_ne (pc := 15) (tgt := 23) hX d_Sh_cut_15 rfl (fun h15 => ?_) (fun h15 => ?_)
    · refine v_iload_n (pc := 23) hX rfl d_Sh_cut_23 ?_
      exact f_iret (pc := 24) hX hR (by simp [cutM, *]) (rfl) d_Sh_cut_24
    · refine v_iload_n (pc := 18) hX rfl d_Sh_cut_18 ?_
      refine v_i2s (pc := 19) hX d_Sh_cut_19 ?_
      refine v_goto (pc := 20) (tgt := 24) hX d_Sh_cut_20 rfl ?_
      exact f_iret (pc := 24) hX hR (by simp [cutM, *]) (rfl) d_Sh_cut_24
  · refine v_iload_n (pc := 7) hX rfl d_Sh_cut_7 ?_
    refine v_i2b (pc := 8) hX d_Sh_cut_8 ?_
    exact f_iret (pc := 9) hX hR (by simp [cutM, *]) (rfl) d_Sh_cut_9
theorem d_Sh_change_0 : decode c_Sh_change 0 = .ok (.iload_n 1, 1) := by decide +kernel
theorem d_Sh_change_1 : decode c_Sh_change 1 = .ok (.aload_n 0, 1) := by decide +kernel
theorem d_Sh_change_2 : decode c_Sh_change 2 = .ok (.getfield 23, 3) := by decide +kernel
theorem d_Sh_change_5 : decode c_Sh_change 5 = .ok (.invokestatic 36, 3) := by decide +kernel
theorem d_Sh_change_8 : decode c_Sh_change 8 = .ok (.ifCond .eq 14, 3) := by decide +kernel
theorem d_Sh_change_11 : decode c_Sh_change 11 = .ok (.aload_n 0, 1) := by decide +kernel
theorem d_Sh_change_12 : decode c_Sh_change 12 = .ok (.getfield 9, 3) := by decide +kernel
theorem d_Sh_change_15 : decode c_Sh_change 15 = .ok (.iload_n 1, 1) := by decide +kernel
theorem d_Sh_change_16 : decode c_Sh_change 16 = .ok (.aload_n 0, 1) := by decide +kernel
theorem d_Sh_change_17 : decode c_Sh_change 17 = .ok (.iload_n 2, 1) := by decide +kernel
theorem d_Sh_change_18 : decode c_Sh_change 18 = .ok (.invokevirtual 39, 3) := by decide +kernel
theorem d_Sh_change_21 : decode c_Sh_change 21 = .ok (.iastore, 1) := by decide +kernel
theorem d_Sh_change_22 : decode c_Sh_change 22 = .ok (.return_, 1) := by decide +kernel
theorem C_Sh_change {M : MM} {r c : Nat} {j n : Nat} {v : Int32} (hr : SH[r]? = some (0, 5)) (hn : NF r 0 = c) (hc : SH[c]? = some (1, 60)) (hj : j < n) (hn6 : n ≤ 60) (hl : M r 3 = i3 n) : AF y_Sh_change c_Sh_change 3 none 2 [vR r, vI (i3 j), vI v] (M) (none) (upM M c j (cutM (M r 2) v)) := by
  refine AF.of k_Sh_change (lo := [some (vR r), some (vI (i3 j)), some (vI v)]) rfl (Nat.le_of_ble_eq_true rfl) (fun X hX hR => ?_)
  refine v_iload_n (pc := 0) hX rfl d_Sh_change_0 ?_
  refine v_aload_n (pc := 1) hX rfl d_Sh_change_1 ?_
  refine g_getI (pc := 2) hX fl_Sh_23 rfl (by assumption) d_Sh_change_2 ?_
  refine f_callN (pc := 5) hX k_LJ_isBelow ks_LJ_isBelow (by decide) (C_LJ_isBelow) rfl rfl rfl (Nat.le_of_ble_eq_true rfl) (Nat.le_of_ble_eq_true rfl) (Nat.le_of_ble_eq_true rfl) d_Sh_change_5 ?_
  refine f_ifeqB (pc := 8) (tgt := 22) hX d_Sh_change_8 rfl (fun h8 => False.elim (absurd h8 (by rw [hl, show (i3 n).toInt = (n : Int) from i3_int (by omega), rg_i3 hj (by omega)]; decide))) (fun h8 => ?_)
  refine v_aload_n (pc := 11) hX rfl d_Sh_change_11 ?_
  refine g_getR (pc := 12) hX fl_Sh_9 rfl (by assumption) (by assumption) d_Sh_change_12 ?_
  refine v_iload_n (pc := 15) hX rfl d_Sh_change_15 ?_
  refine v_aload_n (pc := 16) hX rfl d_Sh_change_16 ?_
  refine v_iload_n (pc := 17) hX rfl d_Sh_change_17 ?_
  refine f_callV (pc := 18) hX k_Sh_cut ki_Sh_cut kv_Sh_cut ml_Sh_39 (C_Sh_cut (by assumption)) (by assumption) rfl rfl rfl rfl (Nat.le_of_ble_eq_true rfl) (Nat.le_of_ble_eq_true rfl) (Nat.le_of_ble_eq_true rfl) d_Sh_change_18 ?_
  refine g_iast (pc := 21) hX (by assumption) (IX.of (by omega) (by decide)) d_Sh_change_21 ?_
  exact f_vret (pc := 22) hX hR (rfl) d_Sh_change_22
theorem d_Te_leave_0 : decode c_Te_leave 0 = .ok (.aload_n 0, 1) := by decide +kernel
theorem d_Te_leave_1 : decode c_Te_leave 1 = .ok (.bipush 31, 2) := by decide +kernel
theorem d_Te_leave_3 : decode c_Te_leave 3 = .ok (.aload_n 0, 1) := by decide +kernel
theorem d_Te_leave_4 : decode c_Te_leave 4 = .ok (.getfield 7, 3) := by decide +kernel
theorem d_Te_leave_7 : decode c_Te_leave 7 = .ok (.imul, 1) := by decide +kernel
theorem d_Te_leave_8 : decode c_Te_leave 8 = .ok (.iload_n 1, 1) := by decide +kernel
theorem d_Te_leave_9 : decode c_Te_leave 9 = .ok (.iadd, 1) := by decide +kernel
theorem d_Te_leave_10 : decode c_Te_leave 10 = .ok (.putfield 7, 3) := by decide +kernel
theorem d_Te_leave_13 : decode c_Te_leave 13 = .ok (.return_, 1) := by decide +kernel
theorem C_Te_leave {M : MM} {v : Int32} : AF y_Te_leave c_Te_leave 2 none 1 [vR 26, vI v] (M) (none) (upM M 26 0 (31 * M 26 0 + v)) := by
  refine AF.of k_Te_leave (lo := [some (vR 26), some (vI v)]) rfl (Nat.le_of_ble_eq_true rfl) (fun X hX hR => ?_)
  refine v_aload_n (pc := 0) hX rfl d_Te_leave_0 ?_
  refine v_bipush (pc := 1) (v := 31) hX (by decide) d_Te_leave_1 ?_
  refine v_aload_n (pc := 3) hX rfl d_Te_leave_3 ?_
  refine g_getI (pc := 4) hX fl_Te_7 rfl rfl d_Te_leave_4 ?_
  refine v_imul (pc := 7) hX d_Te_leave_7 ?_
  refine v_iload_n (pc := 8) hX rfl d_Te_leave_8 ?_
  refine v_iadd (pc := 9) hX d_Te_leave_9 ?_
  refine g_putI (pc := 10) hX fl_Te_7 rfl (finI rfl rfl) rfl rfl rfl d_Te_leave_10 ?_
  exact f_vret (pc := 13) hX hR (rfl) d_Te_leave_13
def lvM (M : MM) (v : Int32) : MM := upM M 26 0 (31 * M 26 0 + v)
theorem lvM_ne {M : MM} {v : Int32} {a i : Nat} (h : a ≠ 26) : lvM M v a i = M a i := upM_ne (fun q => h q.1)
theorem d_Te_tellLeaf_0 : decode c_Te_tellLeaf 0 = .ok (.aload_n 0, 1) := by decide +kernel
theorem d_Te_tellLeaf_1 : decode c_Te_tellLeaf 1 = .ok (.iconst 1, 1) := by decide +kernel
theorem d_Te_tellLeaf_2 : decode c_Te_tellLeaf 2 = .ok (.invokevirtual 13, 3) := by decide +kernel
theorem d_Te_tellLeaf_5 : decode c_Te_tellLeaf 5 = .ok (.aload_n 1, 1) := by decide +kernel
theorem d_Te_tellLeaf_6 : decode c_Te_tellLeaf 6 = .ok (.getfield 17, 3) := by decide +kernel
theorem d_Te_tellLeaf_9 : decode c_Te_tellLeaf 9 = .ok (.ireturn, 1) := by decide +kernel
theorem C_Te_tellLeaf {M : MM} {j : Nat} (hj : SH[j]? = some (0, 1)) : AF y_Te_tellLeaf c_Te_tellLeaf 2 (some .int) 2 [vR 26, vR j] (M) (some (vI (M j 1))) (lvM M 1) := by
  refine AF.of k_Te_tellLeaf (lo := [some (vR 26), some (vR j)]) rfl (Nat.le_of_ble_eq_true rfl) (fun X hX hR => ?_)
  refine v_aload_n (pc := 0) hX rfl d_Te_tellLeaf_0 ?_
  refine v_iconst (pc := 1) (v := 1) hX (by decide) d_Te_tellLeaf_1 ?_
  refine f_callV0 (pc := 2) hX k_Te_leave ki_Te_leave kv_Te_leave ml_Te_13 (C_Te_leave) rfl rfl rfl rfl rfl (Nat.le_of_ble_eq_true rfl) (Nat.le_of_ble_eq_true rfl) (Nat.le_of_ble_eq_true rfl) d_Te_tellLeaf_2 ?_
  refine v_aload_n (pc := 5) hX rfl d_Te_tellLeaf_5 ?_
  refine g_getI (pc := 6) hX fl_Te_17 rfl (by assumption) d_Te_tellLeaf_6 ?_
  exact f_iret (pc := 9) hX hR (lvM_ne (v := 1) (fun q => by rw [q] at hj; cases hj)) (rfl) d_Te_tellLeaf_9
theorem d_Te_tellTwist_0 : decode c_Te_tellTwist 0 = .ok (.aload_n 0, 1) := by decide +kernel
theorem d_Te_tellTwist_1 : decode c_Te_tellTwist 1 = .ok (.iconst 2, 1) := by decide +kernel
theorem d_Te_tellTwist_2 : decode c_Te_tellTwist 2 = .ok (.invokevirtual 13, 3) := by decide +kernel
theorem d_Te_tellTwist_5 : decode c_Te_tellTwist 5 = .ok (.aload_n 0, 1) := by decide +kernel
theorem d_Te_tellTwist_6 : decode c_Te_tellTwist 6 = .ok (.aload_n 1, 1) := by decide +kernel
theorem d_Te_tellTwist_7 : decode c_Te_tellTwist 7 = .ok (.invokevirtual 22, 3) := by decide +kernel
theorem d_Te_tellTwist_10 : decode c_Te_tellTwist 10 = .ok (.bipush 100, 2) := by decide +kernel
theorem d_Te_tellTwist_12 : decode c_Te_tellTwist 12 = .ok (.iadd, 1) := by decide +kernel
theorem d_Te_tellTwist_13 : decode c_Te_tellTwist 13 = .ok (.ireturn, 1) := by decide +kernel
theorem C_Te_tellTwist {M : MM} {j : Nat} (hj : SH[j]? = some (0, 1)) : AF y_Te_tellTwist c_Te_tellTwist 2 (some .int) 3 [vR 26, vR j] (M) (some (vI (M j 1 + 100))) (lvM (lvM M 2) 1) := by
  refine AF.of k_Te_tellTwist (lo := [some (vR 26), some (vR j)]) rfl (Nat.le_of_ble_eq_true rfl) (fun X hX hR => ?_)
  refine v_aload_n (pc := 0) hX rfl d_Te_tellTwist_0 ?_
  refine v_iconst (pc := 1) (v := 2) hX (by decide) d_Te_tellTwist_1 ?_
  refine f_callV0 (pc := 2) hX k_Te_leave ki_Te_leave kv_Te_leave ml_Te_13 (C_Te_leave) rfl rfl rfl rfl rfl (Nat.le_of_ble_eq_true rfl) (Nat.le_of_ble_eq_true rfl) (Nat.le_of_ble_eq_true rfl) d_Te_tellTwist_2 ?_
  refine v_aload_n (pc := 5) hX rfl d_Te_tellTwist_5 ?_
  refine v_aload_n (pc := 6) hX rfl d_Te_tellTwist_6 ?_
  refine f_callV (pc := 7) hX k_Te_tellLeaf ki_Te_tellLeaf kv_Te_tellLeaf ml_Te_22 (C_Te_tellLeaf (by assumption)) rfl rfl rfl rfl rfl (Nat.le_of_ble_eq_true rfl) (Nat.le_of_ble_eq_true rfl) (Nat.le_of_ble_eq_true rfl) d_Te_tellTwist_7 ?_
  refine v_bipush (pc := 10) (v := 100) hX (by decide) d_Te_tellTwist_10 ?_
  refine v_iadd (pc := 12) hX d_Te_tellTwist_12 ?_
  exact f_iret (pc := 13) hX hR (congrArg (· + (100 : Int32)) (lvM_ne (M := M) (v := 2) (fun q => by rw [q] at hj; cases hj))) (rfl) d_Te_tellTwist_13
theorem tp_eq {M : MM} {j : Nat} (hj6 : j ≠ 26) : lvM M 3 j 1 + 100 + lvM (lvM (lvM M 3) 2) 1 j 1 = M j 1 + 100 + M j 1 := by rw [lvM_ne hj6, lvM_ne hj6, lvM_ne hj6, lvM_ne hj6]
theorem d_Te_tellPlug_0 : decode c_Te_tellPlug 0 = .ok (.aload_n 0, 1) := by decide +kernel
theorem d_Te_tellPlug_1 : decode c_Te_tellPlug 1 = .ok (.iconst 3, 1) := by decide +kernel
theorem d_Te_tellPlug_2 : decode c_Te_tellPlug 2 = .ok (.invokevirtual 13, 3) := by decide +kernel
theorem d_Te_tellPlug_5 : decode c_Te_tellPlug 5 = .ok (.aload_n 0, 1) := by decide +kernel
theorem d_Te_tellPlug_6 : decode c_Te_tellPlug 6 = .ok (.aload_n 1, 1) := by decide +kernel
theorem d_Te_tellPlug_7 : decode c_Te_tellPlug 7 = .ok (.invokevirtual 26, 3) := by decide +kernel
theorem d_Te_tellPlug_10 : decode c_Te_tellPlug 10 = .ok (.istore_n 2, 1) := by decide +kernel
theorem d_Te_tellPlug_11 : decode c_Te_tellPlug 11 = .ok (.iload_n 2, 1) := by decide +kernel
theorem d_Te_tellPlug_12 : decode c_Te_tellPlug 12 = .ok (.aload_n 0, 1) := by decide +kernel
theorem d_Te_tellPlug_13 : decode c_Te_tellPlug 13 = .ok (.aload_n 1, 1) := by decide +kernel
theorem d_Te_tellPlug_14 : decode c_Te_tellPlug 14 = .ok (.invokevirtual 22, 3) := by decide +kernel
theorem d_Te_tellPlug_17 : decode c_Te_tellPlug 17 = .ok (.iadd, 1) := by decide +kernel
theorem d_Te_tellPlug_18 : decode c_Te_tellPlug 18 = .ok (.ireturn, 1) := by decide +kernel
theorem C_Te_tellPlug {M : MM} {j : Nat} (hj : SH[j]? = some (0, 1)) : AF y_Te_tellPlug c_Te_tellPlug 3 (some .int) 4 [vR 26, vR j] (M) (some (vI (M j 1 + 100 + M j 1))) (lvM (lvM (lvM (lvM M 3) 2) 1) 1) := by
  refine AF.of k_Te_tellPlug (lo := [some (vR 26), some (vR j), none]) rfl (Nat.le_of_ble_eq_true rfl) (fun X hX hR => ?_)
  refine v_aload_n (pc := 0) hX rfl d_Te_tellPlug_0 ?_
  refine v_iconst (pc := 1) (v := 3) hX (by decide) d_Te_tellPlug_1 ?_
  refine f_callV0 (pc := 2) hX k_Te_leave ki_Te_leave kv_Te_leave ml_Te_13 (C_Te_leave) rfl rfl rfl rfl rfl (Nat.le_of_ble_eq_true rfl) (Nat.le_of_ble_eq_true rfl) (Nat.le_of_ble_eq_true rfl) d_Te_tellPlug_2 ?_
  refine v_aload_n (pc := 5) hX rfl d_Te_tellPlug_5 ?_
  refine v_aload_n (pc := 6) hX rfl d_Te_tellPlug_6 ?_
  refine f_callV (pc := 7) hX k_Te_tellTwist ki_Te_tellTwist kv_Te_tellTwist ml_Te_26 (C_Te_tellTwist (by assumption)) rfl rfl rfl rfl rfl (Nat.le_of_ble_eq_true rfl) (Nat.le_of_ble_eq_true rfl) (Nat.le_of_ble_eq_true rfl) d_Te_tellPlug_7 ?_
  refine v_istore_n (pc := 10) (lo' := [some (vR _), some (vR _), some (vI _)]) hX (Nat.le_of_ble_eq_true rfl) rfl d_Te_tellPlug_10 ?_
  refine v_iload_n (pc := 11) hX rfl d_Te_tellPlug_11 ?_
  refine v_aload_n (pc := 12) hX rfl d_Te_tellPlug_12 ?_
  refine v_aload_n (pc := 13) hX rfl d_Te_tellPlug_13 ?_
  refine f_callV (pc := 14) hX k_Te_tellLeaf ki_Te_tellLeaf kv_Te_tellLeaf ml_Te_22 (C_Te_tellLeaf (by assumption)) rfl rfl rfl rfl rfl (Nat.le_of_ble_eq_true rfl) (Nat.le_of_ble_eq_true rfl) (Nat.le_of_ble_eq_true rfl) d_Te_tellPlug_14 ?_
  refine v_iadd (pc := 17) hX d_Te_tellPlug_17 ?_
  exact f_iret (pc := 18) hX hR (tp_eq (fun q => by rw [q] at hj; cases hj)) (rfl) d_Te_tellPlug_18
theorem d_Te_sniffLent_0 : decode c_Te_sniffLent 0 = .ok (.aload_n 0, 1) := by decide +kernel
theorem d_Te_sniffLent_1 : decode c_Te_sniffLent 1 = .ok (.iconst 4, 1) := by decide +kernel
theorem d_Te_sniffLent_2 : decode c_Te_sniffLent 2 = .ok (.invokevirtual 13, 3) := by decide +kernel
theorem d_Te_sniffLent_5 : decode c_Te_sniffLent 5 = .ok (.iload_n 1, 1) := by decide +kernel
theorem d_Te_sniffLent_6 : decode c_Te_sniffLent 6 = .ok (.ireturn, 1) := by decide +kernel
theorem C_Te_sniffLent {M : MM} {v : Int32} : AF y_Te_sniffLent c_Te_sniffLent 2 (some .int) 2 [vR 26, vI v] (M) (some (vI v)) (lvM M 4) := by
  refine AF.of k_Te_sniffLent (lo := [some (vR 26), some (vI v)]) rfl (Nat.le_of_ble_eq_true rfl) (fun X hX hR => ?_)
  refine v_aload_n (pc := 0) hX rfl d_Te_sniffLent_0 ?_
  refine v_iconst (pc := 1) (v := 4) hX (by decide) d_Te_sniffLent_1 ?_
  refine f_callV0 (pc := 2) hX k_Te_leave ki_Te_leave kv_Te_leave ml_Te_13 (C_Te_leave) rfl rfl rfl rfl rfl (Nat.le_of_ble_eq_true rfl) (Nat.le_of_ble_eq_true rfl) (Nat.le_of_ble_eq_true rfl) d_Te_sniffLent_2 ?_
  refine v_iload_n (pc := 5) hX rfl d_Te_sniffLent_5 ?_
  exact f_iret (pc := 6) hX hR (rfl) (rfl) d_Te_sniffLent_6
theorem d_Te_sniffPlug_0 : decode c_Te_sniffPlug 0 = .ok (.aload_n 0, 1) := by decide +kernel
theorem d_Te_sniffPlug_1 : decode c_Te_sniffPlug 1 = .ok (.iconst 5, 1) := by decide +kernel
theorem d_Te_sniffPlug_2 : decode c_Te_sniffPlug 2 = .ok (.invokevirtual 13, 3) := by decide +kernel
theorem d_Te_sniffPlug_5 : decode c_Te_sniffPlug 5 = .ok (.bipush 80, 2) := by decide +kernel
theorem d_Te_sniffPlug_7 : decode c_Te_sniffPlug 7 = .ok (.ireturn, 1) := by decide +kernel
theorem C_Te_sniffPlug {M : MM} : AF y_Te_sniffPlug c_Te_sniffPlug 1 (some .int) 2 [vR 26] (M) (some (vI 80)) (lvM M 5) := by
  refine AF.of k_Te_sniffPlug (lo := [some (vR 26)]) rfl (Nat.le_of_ble_eq_true rfl) (fun X hX hR => ?_)
  refine v_aload_n (pc := 0) hX rfl d_Te_sniffPlug_0 ?_
  refine v_iconst (pc := 1) (v := 5) hX (by decide) d_Te_sniffPlug_1 ?_
  refine f_callV0 (pc := 2) hX k_Te_leave ki_Te_leave kv_Te_leave ml_Te_13 (C_Te_leave) rfl rfl rfl rfl rfl (Nat.le_of_ble_eq_true rfl) (Nat.le_of_ble_eq_true rfl) (Nat.le_of_ble_eq_true rfl) d_Te_sniffPlug_2 ?_
  refine v_bipush (pc := 5) (v := 80) hX (by decide) d_Te_sniffPlug_5 ?_
  exact f_iret (pc := 7) hX hR (rfl) (rfl) d_Te_sniffPlug_7
end
section
/-! The shop. -/
-- a store: n jars with their parts, nd deciders with theirs
abbrev JT : Type := Nat → Nat → Int32
def CJ (M : MM) (n : Nat) (J : JT) : Prop := n ≤ 6 ∧ M 3 2 = i3 n ∧ ∀ j, j < n → ∀ k, k < 5 → M (6 + j) k = J j k
def CB (M : MM) (n : Nat) (B : JT) : Prop := n ≤ 4 ∧ M 3 3 = i3 n ∧ ∀ j, j < n → ∀ k, k < 4 → M (12 + j) k = B j k
def mk (J : JT) (j : Nat) (t : Int32) : Int32 := mkM (J j 0) (J j 1) (J j 2) t
theorem CJ.mk {M : MM} {n : Nat} {J : JT} (h : CJ M n J) {j : Nat} (hj : j < n) (t : Int32) : mkM (M (6 + j) 0) (M (6 + j) 1) (M (6 + j) 2) t = mk J j t := by
  rw [h.2.2 j hj 0 (by decide), h.2.2 j hj 1 (by decide), h.2.2 j hj 2 (by decide)]; rfl
-- sets of jars as numbers
def bt (s j : Nat) : Nat := (s / 2 ^ j) % 2
theorem pop_s (s k : Nat) : pop (k + 1) s = pop k s + bt s k := rfl
theorem bt_01 (s j : Nat) : bt s j = 0 ∨ bt s j = 1 := by unfold bt; omega
theorem bt_i3 : ∀ s, s < 64 → ∀ j, j < 6 → ((i3 s >>> (i3 j &&& 31)) &&& 1) = i3 (bt s j) := by decide +kernel
theorem shl_i3 : ∀ j, j < 7 → ((1 : Int32) <<< (i3 j &&& 31)) = i3 (2 ^ j) := by decide +kernel
theorem or_i3 : ∀ k, k < 6 → ∀ s, s < 2 ^ k → (i3 s ||| i3 (2 ^ k)) = i3 (s + 2 ^ k) := by decide +kernel
theorem or_0 (x : Int32) : x ||| 0 = x := by
  apply Int32.toBitVec_inj.mp
  simp
def sumB (J : JT) (s : Nat) (t : Int32) : Nat → Int32 := fsum (fun j => if bt s j = 1 then mk J j t else 0)
def blN (J : JT) (n s : Nat) (t : Int32) : Int32 := if pop n s = 0 then 0 else sumB J s t n / i3 (pop n s)
def pcB (J : JT) (s : Nat) : Nat → Int32 := fsum (fun j => if bt s j = 1 then J j 4 else 0)
def stN (J : JT) : Nat → Nat
  | 0 => 0
  | k + 1 => stN J k + (if 0 < J k 3 then 2 ^ k else 0)
theorem stN_lt (J : JT) : ∀ k, stN J k < 2 ^ k
  | 0 => Nat.zero_lt_one
  | k + 1 => by
    have := stN_lt J k
    show stN J k + _ < _
    rw [Nat.pow_succ]
    split <;> omega
def hvS (J : JT) : Nat → Int32 := fsum (fun j => J j 3)
theorem pop_le (s : Nat) : ∀ k, pop k s ≤ k
  | 0 => Nat.le_refl _
  | k + 1 => by have := pop_le s k; have := bt_01 s k; rw [pop_s]; omega
theorem i3_ne0 {k : Nat} (h : k ≠ 0) (hk : k < 1000) : ¬ i3 k = 0 := fun q => by
  have := (i3_inj (a := k) (b := 0) (by omega) (by decide)).mp q
  omega
theorem d_Sp_isMissing_0 : decode c_Sp_isMissing 0 = .ok (.aload_n 0, 1) := by decide +kernel
theorem d_Sp_isMissing_1 : decode c_Sp_isMissing 1 = .ok (.getfield 25, 3) := by decide +kernel
theorem d_Sp_isMissing_4 : decode c_Sp_isMissing 4 = .ok (.ifCond .ne 7, 3) := by decide +kernel
theorem d_Sp_isMissing_7 : decode c_Sp_isMissing 7 = .ok (.iconst 1, 1) := by decide +kernel
theorem d_Sp_isMissing_8 : decode c_Sp_isMissing 8 = .ok (.goto 4, 3) := by decide +kernel
theorem d_Sp_isMissing_11 : decode c_Sp_isMissing 11 = .ok (.iconst 0, 1) := by decide +kernel
theorem d_Sp_isMissing_12 : decode c_Sp_isMissing 12 = .ok (.ireturn, 1) := by decide +kernel
theorem C_Sp_isMissing {M : MM} {n : Nat} {J : JT} (hJ : CJ M n J) : AF y_Sp_isMissing c_Sp_isMissing 1 (some .boolean) 1 [vR 3] (M) (some (vI (bI (decide (n = 0))))) (M) := by
  refine AF.of k_Sp_isMissing (lo := [some (vR 3)]) rfl (Nat.le_of_ble_eq_true rfl) (fun X hX hR => ?_)
  refine v_aload_n (pc := 0) hX rfl d_Sp_isMissing_0 ?_
  refine g_getI (pc := 1) hX fl_Sp_25 rfl rfl d_Sp_isMissing_1 ?_
  refine v_if_ne (pc := 4) (tgt := 11) hX d_Sp_isMissing_4 rfl (fun h4 => ?_) (fun h4 => ?_)
  · refine v_iconst (pc := 11) (v := 0) hX (by decide) d_Sp_isMissing_11 ?_
    exact f_zret (pc := 12) hX hR (by rw [hJ.2.1] at *; first | exact bT (decide_eq_true (by by_cases q : n = 0; exact q; exact absurd (by assumption) (i3_ne0 q (by have := hJ.1; omega)))) | exact bF (decide_eq_false (fun q => by subst q; exact h4 rfl))) (rfl) d_Sp_isMissing_12
  · refine v_iconst (pc := 7) (v := 1) hX (by decide) d_Sp_isMissing_7 ?_
    refine v_goto (pc := 8) (tgt := 12) hX d_Sp_isMissing_8 rfl ?_
    exact f_zret (pc := 12) hX hR (by rw [hJ.2.1] at *; first | exact bT (decide_eq_true (by by_cases q : n = 0; exact q; exact absurd (by assumption) (i3_ne0 q (by have := hJ.1; omega)))) | exact bF (decide_eq_false (fun q => by subst q; exact h4 rfl))) (rfl) d_Sp_isMissing_12
theorem d_Sp_jarAt_0 : decode c_Sp_jarAt 0 = .ok (.iload_n 1, 1) := by decide +kernel
theorem d_Sp_jarAt_1 : decode c_Sp_jarAt 1 = .ok (.aload_n 0, 1) := by decide +kernel
theorem d_Sp_jarAt_2 : decode c_Sp_jarAt 2 = .ok (.getfield 25, 3) := by decide +kernel
theorem d_Sp_jarAt_5 : decode c_Sp_jarAt 5 = .ok (.invokestatic 29, 3) := by decide +kernel
theorem d_Sp_jarAt_8 : decode c_Sp_jarAt 8 = .ok (.ifCond .eq 12, 3) := by decide +kernel
theorem d_Sp_jarAt_11 : decode c_Sp_jarAt 11 = .ok (.aload_n 0, 1) := by decide +kernel
theorem d_Sp_jarAt_12 : decode c_Sp_jarAt 12 = .ok (.getfield 11, 3) := by decide +kernel
theorem d_Sp_jarAt_15 : decode c_Sp_jarAt 15 = .ok (.iload_n 1, 1) := by decide +kernel
theorem d_Sp_jarAt_16 : decode c_Sp_jarAt 16 = .ok (.aaload, 1) := by decide +kernel
theorem d_Sp_jarAt_17 : decode c_Sp_jarAt 17 = .ok (.goto 4, 3) := by decide +kernel
theorem d_Sp_jarAt_20 : decode c_Sp_jarAt 20 = .ok (.aconst_null, 1) := by decide +kernel
theorem d_Sp_jarAt_21 : decode c_Sp_jarAt 21 = .ok (.areturn, 1) := by decide +kernel
theorem C_Sp_jarAt_in {M : MM} {n j : Nat} (hn : n ≤ 6) (hM : M 3 2 = i3 n) (hj : j < n) : AF y_Sp_jarAt c_Sp_jarAt 2 (some (.object "LastJars$Jar")) 2 [vR 3, vI (i3 j)] (M) (some (vR (6 + j))) (M) := by
  refine AF.of k_Sp_jarAt (lo := [some (vR 3), some (vI (i3 j))]) rfl (Nat.le_of_ble_eq_true rfl) (fun X hX hR => ?_)
  refine v_iload_n (pc := 0) hX rfl d_Sp_jarAt_0 ?_
  refine v_aload_n (pc := 1) hX rfl d_Sp_jarAt_1 ?_
  refine g_getI (pc := 2) hX fl_Sp_25 rfl rfl d_Sp_jarAt_2 ?_
  refine f_callN (pc := 5) hX k_LJ_isBelow ks_LJ_isBelow (by decide) (C_LJ_isBelow) rfl rfl rfl (Nat.le_of_ble_eq_true rfl) (Nat.le_of_ble_eq_true rfl) (Nat.le_of_ble_eq_true rfl) d_Sp_jarAt_5 ?_
  refine f_ifeqB (pc := 8) (tgt := 20) hX d_Sp_jarAt_8 rfl (fun h8 => False.elim (absurd h8 (by rw [hM, i3_int (by omega), rg_i3 hj (by omega)]; decide))) (fun h8 => ?_)
  refine v_aload_n (pc := 11) hX rfl d_Sp_jarAt_11 ?_
  refine g_getR (pc := 12) hX fl_Sp_11 rfl rfl nf_3_0 d_Sp_jarAt_12 ?_
  refine v_iload_n (pc := 15) hX rfl d_Sp_jarAt_15 ?_
  refine g_aald (pc := 16) (c := 1) hX (by decide) (by decide) rfl (IX.of (by omega) (by decide)) (nf_jar j (by omega)) d_Sp_jarAt_16 ?_
  refine v_goto (pc := 17) (tgt := 21) hX d_Sp_jarAt_17 rfl ?_
  exact f_aret (pc := 21) hX hR (rfl) (rfl) d_Sp_jarAt_21
theorem C_Sp_jarAt_out {M : MM} {n : Nat} {x : Int32} (hn : n ≤ 6) (hM : M 3 2 = i3 n) (hx : rg x 0 ((n : Int) - 1) = false) : AF y_Sp_jarAt c_Sp_jarAt 2 (some (.object "LastJars$Jar")) 2 [vR 3, vI x] (M) (some (vR 0)) (M) := by
  refine AF.of k_Sp_jarAt (lo := [some (vR 3), some (vI x)]) rfl (Nat.le_of_ble_eq_true rfl) (fun X hX hR => ?_)
  refine v_iload_n (pc := 0) hX rfl d_Sp_jarAt_0 ?_
  refine v_aload_n (pc := 1) hX rfl d_Sp_jarAt_1 ?_
  refine g_getI (pc := 2) hX fl_Sp_25 rfl rfl d_Sp_jarAt_2 ?_
  refine f_callN (pc := 5) hX k_LJ_isBelow ks_LJ_isBelow (by decide) (C_LJ_isBelow) rfl rfl rfl (Nat.le_of_ble_eq_true rfl) (Nat.le_of_ble_eq_true rfl) (Nat.le_of_ble_eq_true rfl) d_Sp_jarAt_5 ?_
  refine f_ifeqB (pc := 8) (tgt := 20) hX d_Sp_jarAt_8 rfl (fun h8 => ?_) (fun h8 => False.elim (absurd h8 (by rw [hM, i3_int (by omega), hx]; decide)))
  refine v_null (pc := 20) hX d_Sp_jarAt_20 ?_
  exact f_aret (pc := 21) hX hR (rfl) (rfl) d_Sp_jarAt_21
theorem d_Sp_deciderAt_0 : decode c_Sp_deciderAt 0 = .ok (.iload_n 1, 1) := by decide +kernel
theorem d_Sp_deciderAt_1 : decode c_Sp_deciderAt 1 = .ok (.aload_n 0, 1) := by decide +kernel
theorem d_Sp_deciderAt_2 : decode c_Sp_deciderAt 2 = .ok (.getfield 33, 3) := by decide +kernel
theorem d_Sp_deciderAt_5 : decode c_Sp_deciderAt 5 = .ok (.invokestatic 29, 3) := by decide +kernel
theorem d_Sp_deciderAt_8 : decode c_Sp_deciderAt 8 = .ok (.ifCond .eq 12, 3) := by decide +kernel
theorem d_Sp_deciderAt_11 : decode c_Sp_deciderAt 11 = .ok (.aload_n 0, 1) := by decide +kernel
theorem d_Sp_deciderAt_12 : decode c_Sp_deciderAt 12 = .ok (.getfield 19, 3) := by decide +kernel
theorem d_Sp_deciderAt_15 : decode c_Sp_deciderAt 15 = .ok (.iload_n 1, 1) := by decide +kernel
theorem d_Sp_deciderAt_16 : decode c_Sp_deciderAt 16 = .ok (.aaload, 1) := by decide +kernel
theorem d_Sp_deciderAt_17 : decode c_Sp_deciderAt 17 = .ok (.goto 4, 3) := by decide +kernel
theorem d_Sp_deciderAt_20 : decode c_Sp_deciderAt 20 = .ok (.aconst_null, 1) := by decide +kernel
theorem d_Sp_deciderAt_21 : decode c_Sp_deciderAt 21 = .ok (.areturn, 1) := by decide +kernel
theorem C_Sp_deciderAt_in {M : MM} {n j : Nat} (hn : n ≤ 4) (hM : M 3 3 = i3 n) (hj : j < n) : AF y_Sp_deciderAt c_Sp_deciderAt 2 (some (.object "LastJars$Decider")) 2 [vR 3, vI (i3 j)] (M) (some (vR (12 + j))) (M) := by
  refine AF.of k_Sp_deciderAt (lo := [some (vR 3), some (vI (i3 j))]) rfl (Nat.le_of_ble_eq_true rfl) (fun X hX hR => ?_)
  refine v_iload_n (pc := 0) hX rfl d_Sp_deciderAt_0 ?_
  refine v_aload_n (pc := 1) hX rfl d_Sp_deciderAt_1 ?_
  refine g_getI (pc := 2) hX fl_Sp_33 rfl rfl d_Sp_deciderAt_2 ?_
  refine f_callN (pc := 5) hX k_LJ_isBelow ks_LJ_isBelow (by decide) (C_LJ_isBelow) rfl rfl rfl (Nat.le_of_ble_eq_true rfl) (Nat.le_of_ble_eq_true rfl) (Nat.le_of_ble_eq_true rfl) d_Sp_deciderAt_5 ?_
  refine f_ifeqB (pc := 8) (tgt := 20) hX d_Sp_deciderAt_8 rfl (fun h8 => False.elim (absurd h8 (by rw [hM, i3_int (by omega), rg_i3 hj (by omega)]; decide))) (fun h8 => ?_)
  refine v_aload_n (pc := 11) hX rfl d_Sp_deciderAt_11 ?_
  refine g_getR (pc := 12) hX fl_Sp_19 rfl rfl nf_3_1 d_Sp_deciderAt_12 ?_
  refine v_iload_n (pc := 15) hX rfl d_Sp_deciderAt_15 ?_
  refine g_aald (pc := 16) (c := 0) hX (by decide) (by decide) rfl (IX.of (by omega) (by decide)) (nf_dec j (by omega)) d_Sp_deciderAt_16 ?_
  refine v_goto (pc := 17) (tgt := 21) hX d_Sp_deciderAt_17 rfl ?_
  exact f_aret (pc := 21) hX hR (rfl) (rfl) d_Sp_deciderAt_21
theorem C_Sp_deciderAt_out {M : MM} {n : Nat} {x : Int32} (hn : n ≤ 4) (hM : M 3 3 = i3 n) (hx : rg x 0 ((n : Int) - 1) = false) : AF y_Sp_deciderAt c_Sp_deciderAt 2 (some (.object "LastJars$Decider")) 2 [vR 3, vI x] (M) (some (vR 0)) (M) := by
  refine AF.of k_Sp_deciderAt (lo := [some (vR 3), some (vI x)]) rfl (Nat.le_of_ble_eq_true rfl) (fun X hX hR => ?_)
  refine v_iload_n (pc := 0) hX rfl d_Sp_deciderAt_0 ?_
  refine v_aload_n (pc := 1) hX rfl d_Sp_deciderAt_1 ?_
  refine g_getI (pc := 2) hX fl_Sp_33 rfl rfl d_Sp_deciderAt_2 ?_
  refine f_callN (pc := 5) hX k_LJ_isBelow ks_LJ_isBelow (by decide) (C_LJ_isBelow) rfl rfl rfl (Nat.le_of_ble_eq_true rfl) (Nat.le_of_ble_eq_true rfl) (Nat.le_of_ble_eq_true rfl) d_Sp_deciderAt_5 ?_
  refine f_ifeqB (pc := 8) (tgt := 20) hX d_Sp_deciderAt_8 rfl (fun h8 => ?_) (fun h8 => False.elim (absurd h8 (by rw [hM, i3_int (by omega), hx]; decide)))
  refine v_null (pc := 20) hX d_Sp_deciderAt_20 ?_
  exact f_aret (pc := 21) hX hR (rfl) (rfl) d_Sp_deciderAt_21
theorem d_Sp_setsEnd_0 : decode c_Sp_setsEnd 0 = .ok (.iconst 1, 1) := by decide +kernel
theorem d_Sp_setsEnd_1 : decode c_Sp_setsEnd 1 = .ok (.aload_n 0, 1) := by decide +kernel
theorem d_Sp_setsEnd_2 : decode c_Sp_setsEnd 2 = .ok (.getfield 25, 3) := by decide +kernel
theorem d_Sp_setsEnd_5 : decode c_Sp_setsEnd 5 = .ok (.ishl, 1) := by decide +kernel
theorem d_Sp_setsEnd_6 : decode c_Sp_setsEnd 6 = .ok (.ireturn, 1) := by decide +kernel
theorem C_Sp_setsEnd {M : MM} {n : Nat} {J : JT} (hJ : CJ M n J) : AF y_Sp_setsEnd c_Sp_setsEnd 1 (some .int) 1 [vR 3] (M) (some (vI (i3 (2 ^ n)))) (M) := by
  refine AF.of k_Sp_setsEnd (lo := [some (vR 3)]) rfl (Nat.le_of_ble_eq_true rfl) (fun X hX hR => ?_)
  refine v_iconst (pc := 0) (v := 1) hX (by decide) d_Sp_setsEnd_0 ?_
  refine v_aload_n (pc := 1) hX rfl d_Sp_setsEnd_1 ?_
  refine g_getI (pc := 2) hX fl_Sp_25 rfl rfl d_Sp_setsEnd_2 ?_
  refine v_ishl (pc := 5) hX d_Sp_setsEnd_5 ?_
  exact f_iret (pc := 6) hX hR (by rw [hJ.2.1]; exact shl_i3 n (by have := hJ.1; omega)) (rfl) d_Sp_setsEnd_6
theorem pow6 {n : Nat} (h : n ≤ 6) : 2 ^ n ≤ 64 := Nat.pow_le_pow_right (n := 2) (by decide) h
theorem d_Sp_isBlend_0 : decode c_Sp_isBlend 0 = .ok (.iload_n 1, 1) := by decide +kernel
theorem d_Sp_isBlend_1 : decode c_Sp_isBlend 1 = .ok (.ifCond .le 15, 3) := by decide +kernel
theorem d_Sp_isBlend_4 : decode c_Sp_isBlend 4 = .ok (.iload_n 1, 1) := by decide +kernel
theorem d_Sp_isBlend_5 : decode c_Sp_isBlend 5 = .ok (.aload_n 0, 1) := by decide +kernel
theorem d_Sp_isBlend_6 : decode c_Sp_isBlend 6 = .ok (.invokevirtual 36, 3) := by decide +kernel
theorem d_Sp_isBlend_9 : decode c_Sp_isBlend 9 = .ok (.if_icmp .ge 7, 3) := by decide +kernel
theorem d_Sp_isBlend_12 : decode c_Sp_isBlend 12 = .ok (.iconst 1, 1) := by decide +kernel
theorem d_Sp_isBlend_13 : decode c_Sp_isBlend 13 = .ok (.goto 4, 3) := by decide +kernel
theorem d_Sp_isBlend_16 : decode c_Sp_isBlend 16 = .ok (.iconst 0, 1) := by decide +kernel
theorem d_Sp_isBlend_17 : decode c_Sp_isBlend 17 = .ok (.ireturn, 1) := by decide +kernel
theorem C_Sp_isBlend {M : MM} {n : Nat} {J : JT} {x : Int32} (hJ : CJ M n J) : AF y_Sp_isBlend c_Sp_isBlend 2 (some .boolean) 2 [vR 3, vI x] (M) (some (vI (bI (rg x 1 ((2 ^ n : Nat) - 1))))) (M) := by
  have hp := pow6 hJ.1
  have hpi := i3_int (k := 2 ^ n) (by omega)
  refine AF.of k_Sp_isBlend (lo := [some (vR 3), some (vI x)]) rfl (Nat.le_of_ble_eq_true rfl) (fun X hX hR => ?_)
  refine v_iload_n (pc := 0) hX rfl d_Sp_isBlend_0 ?_
  refine v_if_le (pc := 1) (tgt := 16) hX d_Sp_isBlend_1 rfl (fun h1 => ?_) (fun h1 => ?_)
  · refine v_iconst (pc := 16) (v := 0) hX (by decide) d_Sp_isBlend_16 ?_
    exact f_zret (pc := 17) hX hR (by first | exact rgF (by simp only [lt32, le32, q_0, hpi] at *; omega) | exact rgT (by simp only [lt32, le32, q_0, hpi] at *; omega)) (rfl) d_Sp_isBlend_17
  · refine v_iload_n (pc := 4) hX rfl d_Sp_isBlend_4 ?_
    refine v_aload_n (pc := 5) hX rfl d_Sp_isBlend_5 ?_
    refine f_callV (pc := 6) hX k_Sp_setsEnd ki_Sp_setsEnd kv_Sp_setsEnd ml_Sp_36 (C_Sp_setsEnd hJ) rfl rfl rfl rfl rfl (Nat.le_of_ble_eq_true rfl) (Nat.le_of_ble_eq_true rfl) (Nat.le_of_ble_eq_true rfl) d_Sp_isBlend_6 ?_
    refine v_icmp_ge (pc := 9) (tgt := 16) hX d_Sp_isBlend_9 rfl (fun h9 => ?_) (fun h9 => ?_)
    · refine v_iconst (pc := 16) (v := 0) hX (by decide) d_Sp_isBlend_16 ?_
      exact f_zret (pc := 17) hX hR (by first | exact rgF (by simp only [lt32, le32, q_0, hpi] at *; omega) | exact rgT (by simp only [lt32, le32, q_0, hpi] at *; omega)) (rfl) d_Sp_isBlend_17
    · refine v_iconst (pc := 12) (v := 1) hX (by decide) d_Sp_isBlend_12 ?_
      refine v_goto (pc := 13) (tgt := 17) hX d_Sp_isBlend_13 rfl ?_
      exact f_zret (pc := 17) hX hR (by first | exact rgF (by simp only [lt32, le32, q_0, hpi] at *; omega) | exact rgT (by simp only [lt32, le32, q_0, hpi] at *; omega)) (rfl) d_Sp_isBlend_17
theorem d_Sp_markOf_0 : decode c_Sp_markOf 0 = .ok (.iconst 0, 1) := by decide +kernel
theorem d_Sp_markOf_1 : decode c_Sp_markOf 1 = .ok (.istore_n 3, 1) := by decide +kernel
theorem d_Sp_markOf_2 : decode c_Sp_markOf 2 = .ok (.iconst 0, 1) := by decide +kernel
theorem d_Sp_markOf_3 : decode c_Sp_markOf 3 = .ok (.istore 4, 2) := by decide +kernel
theorem d_Sp_markOf_5 : decode c_Sp_markOf 5 = .ok (.iconst 0, 1) := by decide +kernel
theorem d_Sp_markOf_6 : decode c_Sp_markOf 6 = .ok (.istore 5, 2) := by decide +kernel
theorem d_Sp_markOf_8 : decode c_Sp_markOf 8 = .ok (.iload 5, 2) := by decide +kernel
theorem d_Sp_markOf_10 : decode c_Sp_markOf 10 = .ok (.aload_n 0, 1) := by decide +kernel
theorem d_Sp_markOf_11 : decode c_Sp_markOf 11 = .ok (.getfield 25, 3) := by decide +kernel
theorem d_Sp_markOf_14 : decode c_Sp_markOf 14 = .ok (.if_icmp .ge 36, 3) := by decide +kernel
theorem d_Sp_markOf_17 : decode c_Sp_markOf 17 = .ok (.iload_n 1, 1) := by decide +kernel
theorem d_Sp_markOf_18 : decode c_Sp_markOf 18 = .ok (.iload 5, 2) := by decide +kernel
theorem d_Sp_markOf_20 : decode c_Sp_markOf 20 = .ok (.ishr, 1) := by decide +kernel
theorem d_Sp_markOf_21 : decode c_Sp_markOf 21 = .ok (.iconst 1, 1) := by decide +kernel
theorem d_Sp_markOf_22 : decode c_Sp_markOf 22 = .ok (.iand, 1) := by decide +kernel
theorem d_Sp_markOf_23 : decode c_Sp_markOf 23 = .ok (.iconst 1, 1) := by decide +kernel
theorem d_Sp_markOf_24 : decode c_Sp_markOf 24 = .ok (.if_icmp .ne 20, 3) := by decide +kernel
theorem d_Sp_markOf_27 : decode c_Sp_markOf 27 = .ok (.iload_n 3, 1) := by decide +kernel
theorem d_Sp_markOf_28 : decode c_Sp_markOf 28 = .ok (.aload_n 0, 1) := by decide +kernel
theorem d_Sp_markOf_29 : decode c_Sp_markOf 29 = .ok (.getfield 11, 3) := by decide +kernel
theorem d_Sp_markOf_32 : decode c_Sp_markOf 32 = .ok (.iload 5, 2) := by decide +kernel
theorem d_Sp_markOf_34 : decode c_Sp_markOf 34 = .ok (.aaload, 1) := by decide +kernel
theorem d_Sp_markOf_35 : decode c_Sp_markOf 35 = .ok (.iload_n 2, 1) := by decide +kernel
theorem d_Sp_markOf_36 : decode c_Sp_markOf 36 = .ok (.invokevirtual 40, 3) := by decide +kernel
theorem d_Sp_markOf_39 : decode c_Sp_markOf 39 = .ok (.iadd, 1) := by decide +kernel
theorem d_Sp_markOf_40 : decode c_Sp_markOf 40 = .ok (.istore_n 3, 1) := by decide +kernel
theorem d_Sp_markOf_41 : decode c_Sp_markOf 41 = .ok (.iinc 4 1, 3) := by decide +kernel
theorem d_Sp_markOf_44 : decode c_Sp_markOf 44 = .ok (.iinc 5 1, 3) := by decide +kernel
theorem d_Sp_markOf_47 : decode c_Sp_markOf 47 = .ok (.goto (-39), 3) := by decide +kernel
theorem d_Sp_markOf_50 : decode c_Sp_markOf 50 = .ok (.iload 4, 2) := by decide +kernel
theorem d_Sp_markOf_52 : decode c_Sp_markOf 52 = .ok (.ifCond .ne 7, 3) := by decide +kernel
theorem d_Sp_markOf_55 : decode c_Sp_markOf 55 = .ok (.iconst 0, 1) := by decide +kernel
theorem d_Sp_markOf_56 : decode c_Sp_markOf 56 = .ok (.goto 7, 3) := by decide +kernel
theorem d_Sp_markOf_59 : decode c_Sp_markOf 59 = .ok (.iload_n 3, 1) := by decide +kernel
theorem d_Sp_markOf_60 : decode c_Sp_markOf 60 = .ok (.iload 4, 2) := by decide +kernel
theorem d_Sp_markOf_62 : decode c_Sp_markOf 62 = .ok (.idiv, 1) := by decide +kernel
theorem d_Sp_markOf_63 : decode c_Sp_markOf 63 = .ok (.ireturn, 1) := by decide +kernel
theorem C_Sp_markOf {M : MM} {n s : Nat} {J : JT} {t : Int32} (hJ : CJ M n J) (hs : s < 64) : AF y_Sp_markOf c_Sp_markOf 6 (some .int) 4 [vR 3, vI (i3 s), vI t] (M) (some (vI (blN J n s t))) (M) := by
  have h6 := hJ.1
  have hM := hJ.2.1
  refine AF.of k_Sp_markOf (lo := [some (vR 3), some (vI (i3 s)), some (vI t), none, none, none]) rfl (Nat.le_of_ble_eq_true rfl) (fun X hX hR => ?_)
  refine v_iconst (pc := 0) (v := 0) hX (by decide) d_Sp_markOf_0 ?_
  refine v_istore_n (pc := 1) (lo' := [some (vR _), some (vI _), some (vI _), some (vI _), none, none]) hX (Nat.le_of_ble_eq_true rfl) rfl d_Sp_markOf_1 ?_
  refine v_iconst (pc := 2) (v := 0) hX (by decide) d_Sp_markOf_2 ?_
  refine v_istore (pc := 3) (lo' := [some (vR _), some (vI _), some (vI _), some (vI _), some (vI _), none]) hX (Nat.le_of_ble_eq_true rfl) rfl d_Sp_markOf_3 ?_
  refine v_iconst (pc := 5) (v := 0) hX (by decide) d_Sp_markOf_5 ?_
  refine v_istore (pc := 6) (lo' := [some (vR _), some (vI _), some (vI _), some (vI _), some (vI _), some (vI _)]) hX (Nat.le_of_ble_eq_true rfl) rfl d_Sp_markOf_6 ?_
  refine VW.cast (lo' := [some (vR 3), some (vI (i3 s)), some (vI t), some (vI (sumB J s t 0)), some (vI (i3 (pop 0 s))), some (vI (i3 0))]) (st' := []) (G' := gM (M)) rfl rfl rfl ?_
  refine v_for (X := X) (head := 8) (n) (fun kk => [some (vR 3), some (vI (i3 s)), some (vI t), some (vI (sumB J s t kk)), some (vI (i3 (pop kk s))), some (vI (i3 kk))]) (fun kk => M) (fun k hk ih8 => ?_) ?_
  · show VW X 8 [some (vR 3), some (vI (i3 s)), some (vI t), some (vI (sumB J s t k)), some (vI (i3 (pop k s))), some (vI (i3 k))] [] (gM (M))
    have hsj := sh_jar k (by omega)
    have hb := bt_i3 s hs k (by omega)
    refine v_iload (pc := 8) hX rfl d_Sp_markOf_8 ?_
    refine v_aload_n (pc := 10) hX rfl d_Sp_markOf_10 ?_
    refine g_getI (pc := 11) hX fl_Sp_25 rfl rfl d_Sp_markOf_11 ?_
    refine v_icmp_ge (pc := 14) (tgt := 50) hX d_Sp_markOf_14 rfl (fun h14 => False.elim (i3_ge_abs hk (by omega) (by rw [← hM]; exact h14))) (fun h14 => ?_)
    refine v_iload_n (pc := 17) hX rfl d_Sp_markOf_17 ?_
    refine v_iload (pc := 18) hX rfl d_Sp_markOf_18 ?_
    refine v_ishr (pc := 20) hX d_Sp_markOf_20 ?_
    refine v_iconst (pc := 21) (v := 1) hX (by decide) d_Sp_markOf_21 ?_
    refine v_iand (pc := 22) hX d_Sp_markOf_22 ?_
    refine v_iconst (pc := 23) (v := 1) hX (by decide) d_Sp_markOf_23 ?_
    refine v_icmp_ne (pc := 24) (tgt := 44) hX d_Sp_markOf_24 rfl (fun h24 => ?_) (fun h24 => ?_)
    · have hb1 : bt s k = 0 := by
        rcases bt_01 s k with h | h
        · exact h
        · rw [hb, h] at h24; exact absurd rfl h24
      refine v_iinc (pc := 44) (lo' := [some (vR _), some (vI _), some (vI _), some (vI _), some (vI _), some (vI _)]) hX rfl rfl d_Sp_markOf_44 ?_
      refine v_goto (pc := 47) (tgt := 8) hX d_Sp_markOf_47 rfl ?_
      exact VW.cast (by first | (rw [i3_succ, pop_s, hb1, i3_succ, hJ.mk hk]; simp only [sumB, fsum, hb1, if_true]; rfl) | (rw [i3_succ, pop_s, hb1]; simp [sumB, fsum, hb1])) rfl rfl ih8
    · have hb1 : bt s k = 1 := by
        rcases bt_01 s k with h | h
        · rw [hb, h] at h24; exact absurd h24 (by decide)
        · exact h
      refine v_iload_n (pc := 27) hX rfl d_Sp_markOf_27 ?_
      refine v_aload_n (pc := 28) hX rfl d_Sp_markOf_28 ?_
      refine g_getR (pc := 29) hX fl_Sp_11 rfl rfl nf_3_0 d_Sp_markOf_29 ?_
      refine v_iload (pc := 32) hX rfl d_Sp_markOf_32 ?_
      refine g_aald (pc := 34) (c := 1) hX (by decide) (by decide) rfl (IX.of (by omega) (by decide)) (nf_jar k (by omega)) d_Sp_markOf_34 ?_
      refine v_iload_n (pc := 35) hX rfl d_Sp_markOf_35 ?_
      refine f_callV (pc := 36) hX k_Ja_markIn ki_Ja_markIn kv_Ja_markIn ml_Sp_40 (C_Ja_markIn (by assumption)) (by assumption) rfl rfl rfl rfl (Nat.le_of_ble_eq_true rfl) (Nat.le_of_ble_eq_true rfl) (Nat.le_of_ble_eq_true rfl) d_Sp_markOf_36 ?_
      refine v_iadd (pc := 39) hX d_Sp_markOf_39 ?_
      refine v_istore_n (pc := 40) (lo' := [some (vR _), some (vI _), some (vI _), some (vI _), some (vI _), some (vI _)]) hX (Nat.le_of_ble_eq_true rfl) rfl d_Sp_markOf_40 ?_
      refine v_iinc (pc := 41) (lo' := [some (vR _), some (vI _), some (vI _), some (vI _), some (vI _), some (vI _)]) hX rfl rfl d_Sp_markOf_41 ?_
      refine v_iinc (pc := 44) (lo' := [some (vR _), some (vI _), some (vI _), some (vI _), some (vI _), some (vI _)]) hX rfl rfl d_Sp_markOf_44 ?_
      refine v_goto (pc := 47) (tgt := 8) hX d_Sp_markOf_47 rfl ?_
      exact VW.cast (by first | (rw [i3_succ, pop_s, hb1, i3_succ, hJ.mk hk]; simp only [sumB, fsum, hb1, if_true]; rfl) | (rw [i3_succ, pop_s, hb1]; simp [sumB, fsum, hb1])) rfl rfl ih8
  · show VW X 8 [some (vR 3), some (vI (i3 s)), some (vI t), some (vI (sumB J s t (n))), some (vI (i3 (pop (n) s))), some (vI (i3 (n)))] [] (gM (M))
    refine v_iload (pc := 8) hX rfl d_Sp_markOf_8 ?_
    refine v_aload_n (pc := 10) hX rfl d_Sp_markOf_10 ?_
    refine g_getI (pc := 11) hX fl_Sp_25 rfl rfl d_Sp_markOf_11 ?_
    refine v_icmp_ge (pc := 14) (tgt := 50) hX d_Sp_markOf_14 rfl (fun h14 => ?_) (fun h14 => False.elim (absurd (by rw [hM]; exact Int32.le_refl _) h14))
    refine v_iload (pc := 50) hX rfl d_Sp_markOf_50 ?_
    refine v_if_ne (pc := 52) (tgt := 59) hX d_Sp_markOf_52 rfl (fun h52 => ?_) (fun h52 => ?_)
    · refine v_iload_n (pc := 59) hX rfl d_Sp_markOf_59 ?_
      refine v_iload (pc := 60) hX rfl d_Sp_markOf_60 ?_
      refine v_idiv (pc := 62) hX h52 d_Sp_markOf_62 ?_
      exact f_iret (pc := 63) hX hR (by rw [blN]; first | (rw [if_neg (fun q => by rw [q] at h52; exact h52 rfl)]) | (rw [if_pos (by by_cases q : pop n s = 0; exact q; exact absurd h52 (i3_ne0 q (by have := pop_le s n; omega)))])) (rfl) d_Sp_markOf_63
    · refine v_iconst (pc := 55) (v := 0) hX (by decide) d_Sp_markOf_55 ?_
      refine v_goto (pc := 56) (tgt := 63) hX d_Sp_markOf_56 rfl ?_
      exact f_iret (pc := 63) hX hR (by rw [blN]; first | (rw [if_neg (fun q => by rw [q] at h52; exact h52 rfl)]) | (rw [if_pos (by by_cases q : pop n s = 0; exact q; exact absurd h52 (i3_ne0 q (by have := pop_le s n; omega)))])) (rfl) d_Sp_markOf_63
theorem bt_mul {s j : Nat} (x : Int32) : i3 (bt s j) * x = if bt s j = 1 then x else 0 := by
  rcases bt_01 s j with h | h <;> rw [h]
  · rw [if_neg (by decide)]; exact Int32.zero_mul
  · rw [if_pos rfl]; exact Int32.one_mul x
theorem d_Sp_penceOf_0 : decode c_Sp_penceOf 0 = .ok (.iconst 0, 1) := by decide +kernel
theorem d_Sp_penceOf_1 : decode c_Sp_penceOf 1 = .ok (.istore_n 2, 1) := by decide +kernel
theorem d_Sp_penceOf_2 : decode c_Sp_penceOf 2 = .ok (.iconst 0, 1) := by decide +kernel
theorem d_Sp_penceOf_3 : decode c_Sp_penceOf 3 = .ok (.istore_n 3, 1) := by decide +kernel
theorem d_Sp_penceOf_4 : decode c_Sp_penceOf 4 = .ok (.iload_n 3, 1) := by decide +kernel
theorem d_Sp_penceOf_5 : decode c_Sp_penceOf 5 = .ok (.aload_n 0, 1) := by decide +kernel
theorem d_Sp_penceOf_6 : decode c_Sp_penceOf 6 = .ok (.getfield 25, 3) := by decide +kernel
theorem d_Sp_penceOf_9 : decode c_Sp_penceOf 9 = .ok (.if_icmp .ge 27, 3) := by decide +kernel
theorem d_Sp_penceOf_12 : decode c_Sp_penceOf 12 = .ok (.iload_n 2, 1) := by decide +kernel
theorem d_Sp_penceOf_13 : decode c_Sp_penceOf 13 = .ok (.iload_n 1, 1) := by decide +kernel
theorem d_Sp_penceOf_14 : decode c_Sp_penceOf 14 = .ok (.iload_n 3, 1) := by decide +kernel
theorem d_Sp_penceOf_15 : decode c_Sp_penceOf 15 = .ok (.ishr, 1) := by decide +kernel
theorem d_Sp_penceOf_16 : decode c_Sp_penceOf 16 = .ok (.iconst 1, 1) := by decide +kernel
theorem d_Sp_penceOf_17 : decode c_Sp_penceOf 17 = .ok (.iand, 1) := by decide +kernel
theorem d_Sp_penceOf_18 : decode c_Sp_penceOf 18 = .ok (.aload_n 0, 1) := by decide +kernel
theorem d_Sp_penceOf_19 : decode c_Sp_penceOf 19 = .ok (.getfield 11, 3) := by decide +kernel
theorem d_Sp_penceOf_22 : decode c_Sp_penceOf 22 = .ok (.iload_n 3, 1) := by decide +kernel
theorem d_Sp_penceOf_23 : decode c_Sp_penceOf 23 = .ok (.aaload, 1) := by decide +kernel
theorem d_Sp_penceOf_24 : decode c_Sp_penceOf 24 = .ok (.getfield 44, 3) := by decide +kernel
theorem d_Sp_penceOf_27 : decode c_Sp_penceOf 27 = .ok (.imul, 1) := by decide +kernel
theorem d_Sp_penceOf_28 : decode c_Sp_penceOf 28 = .ok (.iadd, 1) := by decide +kernel
theorem d_Sp_penceOf_29 : decode c_Sp_penceOf 29 = .ok (.istore_n 2, 1) := by decide +kernel
theorem d_Sp_penceOf_30 : decode c_Sp_penceOf 30 = .ok (.iinc 3 1, 3) := by decide +kernel
theorem d_Sp_penceOf_33 : decode c_Sp_penceOf 33 = .ok (.goto (-29), 3) := by decide +kernel
theorem d_Sp_penceOf_36 : decode c_Sp_penceOf 36 = .ok (.iload_n 2, 1) := by decide +kernel
theorem d_Sp_penceOf_37 : decode c_Sp_penceOf 37 = .ok (.ireturn, 1) := by decide +kernel
theorem C_Sp_penceOf {M : MM} {n s : Nat} {J : JT} (hJ : CJ M n J) (hs : s < 64) : AF y_Sp_penceOf c_Sp_penceOf 4 (some .int) 1 [vR 3, vI (i3 s)] (M) (some (vI (pcB J s n))) (M) := by
  have h6 := hJ.1
  have hM := hJ.2.1
  refine AF.of k_Sp_penceOf (lo := [some (vR 3), some (vI (i3 s)), none, none]) rfl (Nat.le_of_ble_eq_true rfl) (fun X hX hR => ?_)
  refine v_iconst (pc := 0) (v := 0) hX (by decide) d_Sp_penceOf_0 ?_
  refine v_istore_n (pc := 1) (lo' := [some (vR _), some (vI _), some (vI _), none]) hX (Nat.le_of_ble_eq_true rfl) rfl d_Sp_penceOf_1 ?_
  refine v_iconst (pc := 2) (v := 0) hX (by decide) d_Sp_penceOf_2 ?_
  refine v_istore_n (pc := 3) (lo' := [some (vR _), some (vI _), some (vI _), some (vI _)]) hX (Nat.le_of_ble_eq_true rfl) rfl d_Sp_penceOf_3 ?_
  refine VW.cast (lo' := [some (vR 3), some (vI (i3 s)), some (vI (pcB J s 0)), some (vI (i3 0))]) (st' := []) (G' := gM (M)) rfl rfl rfl ?_
  refine v_for (X := X) (head := 4) (n) (fun kk => [some (vR 3), some (vI (i3 s)), some (vI (pcB J s kk)), some (vI (i3 kk))]) (fun kk => M) (fun k hk ih4 => ?_) ?_
  · show VW X 4 [some (vR 3), some (vI (i3 s)), some (vI (pcB J s k)), some (vI (i3 k))] [] (gM (M))
    have hsj := sh_jar k (by omega)
    have hb := bt_i3 s hs k (by omega)
    refine v_iload_n (pc := 4) hX rfl d_Sp_penceOf_4 ?_
    refine v_aload_n (pc := 5) hX rfl d_Sp_penceOf_5 ?_
    refine g_getI (pc := 6) hX fl_Sp_25 rfl rfl d_Sp_penceOf_6 ?_
    refine v_icmp_ge (pc := 9) (tgt := 36) hX d_Sp_penceOf_9 rfl (fun h9 => False.elim (i3_ge_abs hk (by omega) (by rw [← hM]; exact h9))) (fun h9 => ?_)
    refine v_iload_n (pc := 12) hX rfl d_Sp_penceOf_12 ?_
    refine v_iload_n (pc := 13) hX rfl d_Sp_penceOf_13 ?_
    refine v_iload_n (pc := 14) hX rfl d_Sp_penceOf_14 ?_
    refine v_ishr (pc := 15) hX d_Sp_penceOf_15 ?_
    refine v_iconst (pc := 16) (v := 1) hX (by decide) d_Sp_penceOf_16 ?_
    refine v_iand (pc := 17) hX d_Sp_penceOf_17 ?_
    refine v_aload_n (pc := 18) hX rfl d_Sp_penceOf_18 ?_
    refine g_getR (pc := 19) hX fl_Sp_11 rfl rfl nf_3_0 d_Sp_penceOf_19 ?_
    refine v_iload_n (pc := 22) hX rfl d_Sp_penceOf_22 ?_
    refine g_aald (pc := 23) (c := 1) hX (by decide) (by decide) rfl (IX.of (by omega) (by decide)) (nf_jar k (by omega)) d_Sp_penceOf_23 ?_
    refine g_getI (pc := 24) hX fl_Sp_44 rfl (by assumption) d_Sp_penceOf_24 ?_
    refine v_imul (pc := 27) hX d_Sp_penceOf_27 ?_
    refine v_iadd (pc := 28) hX d_Sp_penceOf_28 ?_
    refine v_istore_n (pc := 29) (lo' := [some (vR _), some (vI _), some (vI _), some (vI _)]) hX (Nat.le_of_ble_eq_true rfl) rfl d_Sp_penceOf_29 ?_
    refine v_iinc (pc := 30) (lo' := [some (vR _), some (vI _), some (vI _), some (vI _)]) hX rfl rfl d_Sp_penceOf_30 ?_
    refine v_goto (pc := 33) (tgt := 4) hX d_Sp_penceOf_33 rfl ?_
    exact VW.cast (by rw [i3_succ, hb, bt_mul, hJ.2.2 k hk 4 (by decide)]; rfl) rfl rfl ih4
  · show VW X 4 [some (vR 3), some (vI (i3 s)), some (vI (pcB J s (n))), some (vI (i3 (n)))] [] (gM (M))
    refine v_iload_n (pc := 4) hX rfl d_Sp_penceOf_4 ?_
    refine v_aload_n (pc := 5) hX rfl d_Sp_penceOf_5 ?_
    refine g_getI (pc := 6) hX fl_Sp_25 rfl rfl d_Sp_penceOf_6 ?_
    refine v_icmp_ge (pc := 9) (tgt := 36) hX d_Sp_penceOf_9 rfl (fun h9 => ?_) (fun h9 => False.elim (absurd (by rw [hM]; exact Int32.le_refl _) h9))
    refine v_iload_n (pc := 36) hX rfl d_Sp_penceOf_36 ?_
    exact f_iret (pc := 37) hX hR (rfl) (rfl) d_Sp_penceOf_37
theorem d_Sp_stocked_0 : decode c_Sp_stocked 0 = .ok (.iconst 0, 1) := by decide +kernel
theorem d_Sp_stocked_1 : decode c_Sp_stocked 1 = .ok (.istore_n 1, 1) := by decide +kernel
theorem d_Sp_stocked_2 : decode c_Sp_stocked 2 = .ok (.iconst 0, 1) := by decide +kernel
theorem d_Sp_stocked_3 : decode c_Sp_stocked 3 = .ok (.istore_n 2, 1) := by decide +kernel
theorem d_Sp_stocked_4 : decode c_Sp_stocked 4 = .ok (.iload_n 2, 1) := by decide +kernel
theorem d_Sp_stocked_5 : decode c_Sp_stocked 5 = .ok (.aload_n 0, 1) := by decide +kernel
theorem d_Sp_stocked_6 : decode c_Sp_stocked 6 = .ok (.getfield 25, 3) := by decide +kernel
theorem d_Sp_stocked_9 : decode c_Sp_stocked 9 = .ok (.if_icmp .ge 31, 3) := by decide +kernel
theorem d_Sp_stocked_12 : decode c_Sp_stocked 12 = .ok (.iload_n 1, 1) := by decide +kernel
theorem d_Sp_stocked_13 : decode c_Sp_stocked 13 = .ok (.aload_n 0, 1) := by decide +kernel
theorem d_Sp_stocked_14 : decode c_Sp_stocked 14 = .ok (.getfield 11, 3) := by decide +kernel
theorem d_Sp_stocked_17 : decode c_Sp_stocked 17 = .ok (.iload_n 2, 1) := by decide +kernel
theorem d_Sp_stocked_18 : decode c_Sp_stocked 18 = .ok (.aaload, 1) := by decide +kernel
theorem d_Sp_stocked_19 : decode c_Sp_stocked 19 = .ok (.getfield 47, 3) := by decide +kernel
theorem d_Sp_stocked_22 : decode c_Sp_stocked 22 = .ok (.ifCond .le 9, 3) := by decide +kernel
theorem d_Sp_stocked_25 : decode c_Sp_stocked 25 = .ok (.iconst 1, 1) := by decide +kernel
theorem d_Sp_stocked_26 : decode c_Sp_stocked 26 = .ok (.iload_n 2, 1) := by decide +kernel
theorem d_Sp_stocked_27 : decode c_Sp_stocked 27 = .ok (.ishl, 1) := by decide +kernel
theorem d_Sp_stocked_28 : decode c_Sp_stocked 28 = .ok (.goto 4, 3) := by decide +kernel
theorem d_Sp_stocked_31 : decode c_Sp_stocked 31 = .ok (.iconst 0, 1) := by decide +kernel
theorem d_Sp_stocked_32 : decode c_Sp_stocked 32 = .ok (.ior, 1) := by decide +kernel
theorem d_Sp_stocked_33 : decode c_Sp_stocked 33 = .ok (.istore_n 1, 1) := by decide +kernel
theorem d_Sp_stocked_34 : decode c_Sp_stocked 34 = .ok (.iinc 2 1, 3) := by decide +kernel
theorem d_Sp_stocked_37 : decode c_Sp_stocked 37 = .ok (.goto (-33), 3) := by decide +kernel
theorem d_Sp_stocked_40 : decode c_Sp_stocked 40 = .ok (.iload_n 1, 1) := by decide +kernel
theorem d_Sp_stocked_41 : decode c_Sp_stocked 41 = .ok (.ireturn, 1) := by decide +kernel
theorem C_Sp_stocked {M : MM} {n : Nat} {J : JT} (hJ : CJ M n J) : AF y_Sp_stocked c_Sp_stocked 3 (some .int) 1 [vR 3] (M) (some (vI (i3 (stN J n)))) (M) := by
  have h6 := hJ.1
  have hM := hJ.2.1
  refine AF.of k_Sp_stocked (lo := [some (vR 3), none, none]) rfl (Nat.le_of_ble_eq_true rfl) (fun X hX hR => ?_)
  refine v_iconst (pc := 0) (v := 0) hX (by decide) d_Sp_stocked_0 ?_
  refine v_istore_n (pc := 1) (lo' := [some (vR _), some (vI _), none]) hX (Nat.le_of_ble_eq_true rfl) rfl d_Sp_stocked_1 ?_
  refine v_iconst (pc := 2) (v := 0) hX (by decide) d_Sp_stocked_2 ?_
  refine v_istore_n (pc := 3) (lo' := [some (vR _), some (vI _), some (vI _)]) hX (Nat.le_of_ble_eq_true rfl) rfl d_Sp_stocked_3 ?_
  refine VW.cast (lo' := [some (vR 3), some (vI (i3 (stN J 0))), some (vI (i3 0))]) (st' := []) (G' := gM (M)) rfl rfl rfl ?_
  refine v_for (X := X) (head := 4) (n) (fun kk => [some (vR 3), some (vI (i3 (stN J kk))), some (vI (i3 kk))]) (fun kk => M) (fun k hk ih4 => ?_) ?_
  · show VW X 4 [some (vR 3), some (vI (i3 (stN J k))), some (vI (i3 k))] [] (gM (M))
    have hsj := sh_jar k (by omega)
    have hb := shl_i3 k (by omega)
    have hl := stN_lt J k
    have h3 := hJ.2.2 k hk 3 (by decide)
    refine v_iload_n (pc := 4) hX rfl d_Sp_stocked_4 ?_
    refine v_aload_n (pc := 5) hX rfl d_Sp_stocked_5 ?_
    refine g_getI (pc := 6) hX fl_Sp_25 rfl rfl d_Sp_stocked_6 ?_
    refine v_icmp_ge (pc := 9) (tgt := 40) hX d_Sp_stocked_9 rfl (fun h9 => False.elim (i3_ge_abs hk (by omega) (by rw [← hM]; exact h9))) (fun h9 => ?_)
    refine v_iload_n (pc := 12) hX rfl d_Sp_stocked_12 ?_
    refine v_aload_n (pc := 13) hX rfl d_Sp_stocked_13 ?_
    refine g_getR (pc := 14) hX fl_Sp_11 rfl rfl nf_3_0 d_Sp_stocked_14 ?_
    refine v_iload_n (pc := 17) hX rfl d_Sp_stocked_17 ?_
    refine g_aald (pc := 18) (c := 1) hX (by decide) (by decide) rfl (IX.of (by omega) (by decide)) (nf_jar k (by omega)) d_Sp_stocked_18 ?_
    refine g_getI (pc := 19) hX fl_Sp_47 rfl (by assumption) d_Sp_stocked_19 ?_
    refine v_if_le (pc := 22) (tgt := 31) hX d_Sp_stocked_22 rfl (fun h22 => ?_) (fun h22 => ?_)
    · refine v_iconst (pc := 31) (v := 0) hX (by decide) d_Sp_stocked_31 ?_
      refine v_ior (pc := 32) hX d_Sp_stocked_32 ?_
      refine v_istore_n (pc := 33) (lo' := [some (vR _), some (vI _), some (vI _)]) hX (Nat.le_of_ble_eq_true rfl) rfl d_Sp_stocked_33 ?_
      refine v_iinc (pc := 34) (lo' := [some (vR _), some (vI _), some (vI _)]) hX rfl rfl d_Sp_stocked_34 ?_
      refine v_goto (pc := 37) (tgt := 4) hX d_Sp_stocked_37 rfl ?_
      exact VW.cast (by first | (rw [h3] at h22; rw [i3_succ, hb, or_i3 k (by omega) _ hl, stN, if_pos (by simp only [lt32, le32, q_0] at *; omega)]; rfl) | (rw [h3] at h22; rw [i3_succ, or_0, stN, if_neg (by simp only [lt32, le32, q_0] at *; omega)]; rfl)) rfl rfl ih4
    · refine v_iconst (pc := 25) (v := 1) hX (by decide) d_Sp_stocked_25 ?_
      refine v_iload_n (pc := 26) hX rfl d_Sp_stocked_26 ?_
      refine v_ishl (pc := 27) hX d_Sp_stocked_27 ?_
      refine v_goto (pc := 28) (tgt := 32) hX d_Sp_stocked_28 rfl ?_
      refine v_ior (pc := 32) hX d_Sp_stocked_32 ?_
      refine v_istore_n (pc := 33) (lo' := [some (vR _), some (vI _), some (vI _)]) hX (Nat.le_of_ble_eq_true rfl) rfl d_Sp_stocked_33 ?_
      refine v_iinc (pc := 34) (lo' := [some (vR _), some (vI _), some (vI _)]) hX rfl rfl d_Sp_stocked_34 ?_
      refine v_goto (pc := 37) (tgt := 4) hX d_Sp_stocked_37 rfl ?_
      exact VW.cast (by first | (rw [h3] at h22; rw [i3_succ, hb, or_i3 k (by omega) _ hl, stN, if_pos (by simp only [lt32, le32, q_0] at *; omega)]; rfl) | (rw [h3] at h22; rw [i3_succ, or_0, stN, if_neg (by simp only [lt32, le32, q_0] at *; omega)]; rfl)) rfl rfl ih4
  · show VW X 4 [some (vR 3), some (vI (i3 (stN J (n)))), some (vI (i3 (n)))] [] (gM (M))
    refine v_iload_n (pc := 4) hX rfl d_Sp_stocked_4 ?_
    refine v_aload_n (pc := 5) hX rfl d_Sp_stocked_5 ?_
    refine g_getI (pc := 6) hX fl_Sp_25 rfl rfl d_Sp_stocked_6 ?_
    refine v_icmp_ge (pc := 9) (tgt := 40) hX d_Sp_stocked_9 rfl (fun h9 => ?_) (fun h9 => False.elim (absurd (by rw [hM]; exact Int32.le_refl _) h9))
    refine v_iload_n (pc := 40) hX rfl d_Sp_stocked_40 ?_
    exact f_iret (pc := 41) hX hR (rfl) (rfl) d_Sp_stocked_41
theorem d_Sp_allHalves_0 : decode c_Sp_allHalves 0 = .ok (.iconst 0, 1) := by decide +kernel
theorem d_Sp_allHalves_1 : decode c_Sp_allHalves 1 = .ok (.istore_n 1, 1) := by decide +kernel
theorem d_Sp_allHalves_2 : decode c_Sp_allHalves 2 = .ok (.iconst 0, 1) := by decide +kernel
theorem d_Sp_allHalves_3 : decode c_Sp_allHalves 3 = .ok (.istore_n 2, 1) := by decide +kernel
theorem d_Sp_allHalves_4 : decode c_Sp_allHalves 4 = .ok (.iload_n 2, 1) := by decide +kernel
theorem d_Sp_allHalves_5 : decode c_Sp_allHalves 5 = .ok (.aload_n 0, 1) := by decide +kernel
theorem d_Sp_allHalves_6 : decode c_Sp_allHalves 6 = .ok (.getfield 25, 3) := by decide +kernel
theorem d_Sp_allHalves_9 : decode c_Sp_allHalves 9 = .ok (.if_icmp .ge 21, 3) := by decide +kernel
theorem d_Sp_allHalves_12 : decode c_Sp_allHalves 12 = .ok (.iload_n 1, 1) := by decide +kernel
theorem d_Sp_allHalves_13 : decode c_Sp_allHalves 13 = .ok (.aload_n 0, 1) := by decide +kernel
theorem d_Sp_allHalves_14 : decode c_Sp_allHalves 14 = .ok (.getfield 11, 3) := by decide +kernel
theorem d_Sp_allHalves_17 : decode c_Sp_allHalves 17 = .ok (.iload_n 2, 1) := by decide +kernel
theorem d_Sp_allHalves_18 : decode c_Sp_allHalves 18 = .ok (.aaload, 1) := by decide +kernel
theorem d_Sp_allHalves_19 : decode c_Sp_allHalves 19 = .ok (.getfield 47, 3) := by decide +kernel
theorem d_Sp_allHalves_22 : decode c_Sp_allHalves 22 = .ok (.iadd, 1) := by decide +kernel
theorem d_Sp_allHalves_23 : decode c_Sp_allHalves 23 = .ok (.istore_n 1, 1) := by decide +kernel
theorem d_Sp_allHalves_24 : decode c_Sp_allHalves 24 = .ok (.iinc 2 1, 3) := by decide +kernel
theorem d_Sp_allHalves_27 : decode c_Sp_allHalves 27 = .ok (.goto (-23), 3) := by decide +kernel
theorem d_Sp_allHalves_30 : decode c_Sp_allHalves 30 = .ok (.iload_n 1, 1) := by decide +kernel
theorem d_Sp_allHalves_31 : decode c_Sp_allHalves 31 = .ok (.ireturn, 1) := by decide +kernel
theorem C_Sp_allHalves {M : MM} {n : Nat} {J : JT} (hJ : CJ M n J) : AF y_Sp_allHalves c_Sp_allHalves 3 (some .int) 1 [vR 3] (M) (some (vI (hvS J n))) (M) := by
  have h6 := hJ.1
  have hM := hJ.2.1
  refine AF.of k_Sp_allHalves (lo := [some (vR 3), none, none]) rfl (Nat.le_of_ble_eq_true rfl) (fun X hX hR => ?_)
  refine v_iconst (pc := 0) (v := 0) hX (by decide) d_Sp_allHalves_0 ?_
  refine v_istore_n (pc := 1) (lo' := [some (vR _), some (vI _), none]) hX (Nat.le_of_ble_eq_true rfl) rfl d_Sp_allHalves_1 ?_
  refine v_iconst (pc := 2) (v := 0) hX (by decide) d_Sp_allHalves_2 ?_
  refine v_istore_n (pc := 3) (lo' := [some (vR _), some (vI _), some (vI _)]) hX (Nat.le_of_ble_eq_true rfl) rfl d_Sp_allHalves_3 ?_
  refine VW.cast (lo' := [some (vR 3), some (vI (hvS J 0)), some (vI (i3 0))]) (st' := []) (G' := gM (M)) rfl rfl rfl ?_
  refine v_for (X := X) (head := 4) (n) (fun kk => [some (vR 3), some (vI (hvS J kk)), some (vI (i3 kk))]) (fun kk => M) (fun k hk ih4 => ?_) ?_
  · show VW X 4 [some (vR 3), some (vI (hvS J k)), some (vI (i3 k))] [] (gM (M))
    have hsj := sh_jar k (by omega)
    refine v_iload_n (pc := 4) hX rfl d_Sp_allHalves_4 ?_
    refine v_aload_n (pc := 5) hX rfl d_Sp_allHalves_5 ?_
    refine g_getI (pc := 6) hX fl_Sp_25 rfl rfl d_Sp_allHalves_6 ?_
    refine v_icmp_ge (pc := 9) (tgt := 30) hX d_Sp_allHalves_9 rfl (fun h9 => False.elim (i3_ge_abs hk (by omega) (by rw [← hM]; exact h9))) (fun h9 => ?_)
    refine v_iload_n (pc := 12) hX rfl d_Sp_allHalves_12 ?_
    refine v_aload_n (pc := 13) hX rfl d_Sp_allHalves_13 ?_
    refine g_getR (pc := 14) hX fl_Sp_11 rfl rfl nf_3_0 d_Sp_allHalves_14 ?_
    refine v_iload_n (pc := 17) hX rfl d_Sp_allHalves_17 ?_
    refine g_aald (pc := 18) (c := 1) hX (by decide) (by decide) rfl (IX.of (by omega) (by decide)) (nf_jar k (by omega)) d_Sp_allHalves_18 ?_
    refine g_getI (pc := 19) hX fl_Sp_47 rfl (by assumption) d_Sp_allHalves_19 ?_
    refine v_iadd (pc := 22) hX d_Sp_allHalves_22 ?_
    refine v_istore_n (pc := 23) (lo' := [some (vR _), some (vI _), some (vI _)]) hX (Nat.le_of_ble_eq_true rfl) rfl d_Sp_allHalves_23 ?_
    refine v_iinc (pc := 24) (lo' := [some (vR _), some (vI _), some (vI _)]) hX rfl rfl d_Sp_allHalves_24 ?_
    refine v_goto (pc := 27) (tgt := 4) hX d_Sp_allHalves_27 rfl ?_
    exact VW.cast (by rw [i3_succ, hJ.2.2 k hk 3 (by decide)]; rfl) rfl rfl ih4
  · show VW X 4 [some (vR 3), some (vI (hvS J (n))), some (vI (i3 (n)))] [] (gM (M))
    refine v_iload_n (pc := 4) hX rfl d_Sp_allHalves_4 ?_
    refine v_aload_n (pc := 5) hX rfl d_Sp_allHalves_5 ?_
    refine g_getI (pc := 6) hX fl_Sp_25 rfl rfl d_Sp_allHalves_6 ?_
    refine v_icmp_ge (pc := 9) (tgt := 30) hX d_Sp_allHalves_9 rfl (fun h9 => ?_) (fun h9 => False.elim (absurd (by rw [hM]; exact Int32.le_refl _) h9))
    refine v_iload_n (pc := 30) hX rfl d_Sp_allHalves_30 ?_
    exact f_iret (pc := 31) hX hR (rfl) (rfl) d_Sp_allHalves_31
end
section
/-! Blends. -/
-- folds that the answers are made of
def allB (f : Nat → Bool) : Nat → Bool
  | 0 => true
  | k + 1 => allB f k && f k
theorem allB_no {f : Nat → Bool} {k n : Nat} (hk : k < n) (h : f k = false) : allB f n = false := by
  induction n with
  | zero => omega
  | succ n ih =>
    show (allB f n && f n) = false
    by_cases e : k = n
    · subst e; rw [h]; simp
    · rw [ih (by omega)]; rfl
theorem allB_s {f : Nat → Bool} {k : Nat} (h : allB f k = true) (h2 : f k = true) : allB f (k + 1) = true := by
  show (allB f k && f k) = true
  rw [h, h2]; rfl
def hrun (f : Nat → Int32) (v : Int32) : Nat → Int32
  | 0 => 0
  | k + 1 => if v ≤ f k then hrun f v k + 1 else 0
def hmost (f : Nat → Int32) (v : Int32) : Nat → Int32
  | 0 => 0
  | k + 1 => if hmost f v k < hrun f v (k + 1) then hrun f v (k + 1) else hmost f v k
theorem hrun_ge {f : Nat → Int32} {v : Int32} {k : Nat} (h : v ≤ f k) : hrun f v (k + 1) = hrun f v k + 1 := if_pos h
theorem hrun_lt {f : Nat → Int32} {v : Int32} {k : Nat} (h : f k < v) : hrun f v (k + 1) = 0 := if_neg (Int32.not_le.mpr h)
def dcB (J : JT) (nd wh : Int32) (n s : Nat) : Bool := decide (nd ≤ blN J n s wh)
theorem set_end {n : Nat} : i3 (2 ^ n) ≤ i3 (2 ^ n - 1 + 1) := by rw [Nat.sub_add_cancel Nat.one_le_two_pow]; exact Int32.le_refl _
def sb (s t : Nat) : Bool := Nat.land s t == s
theorem sb_i3 : ∀ s, s < 64 → ∀ t, t < 64 → decide ((i3 s &&& (i3 t ^^^ (-1))) = 0) = sb s t := by decide +kernel
theorem sb_t {s t : Nat} (hs : s < 64) (ht : t < 64) (h : (i3 s &&& (i3 t ^^^ (-1))) = 0) : sb s t = true := by rw [← sb_i3 s hs t ht]; exact decide_eq_true h
theorem sb_f {s t : Nat} (hs : s < 64) (ht : t < 64) (h : ¬ (i3 s &&& (i3 t ^^^ (-1))) = 0) : sb s t = false := by rw [← sb_i3 s hs t ht]; exact decide_eq_false h
/-- no set, or one, as the answers tell it -/
def en (s : Nat) : Int32 := if s = 0 then -9 else i3 s
theorem en_0 : en 0 = -9 := rfl
theorem en_p {s : Nat} (h : s ≠ 0) : en s = i3 s := by unfold en; rw [if_neg h]
theorem en_none {s : Nat} (h : s < 64) : en s = -9 ↔ s = 0 := by
  constructor
  · intro q
    by_cases e : s = 0
    · exact e
    · rw [en_p e] at q
      have := congrArg Int32.toInt q
      rw [i3_int (by omega), q_m9] at this
      omega
  · intro q; rw [q]; rfl
def chC (J : JT) (nd wh pu : Int32) (n st s b : Nat) : Bool := sb s st && (decide (pcB J s n ≤ pu) && (dcB J nd wh n s && (decide (b = 0) || (decide (pcB J s n < pcB J b n) || (decide (pcB J s n = pcB J b n) && decide (pop 6 s < pop 6 b))))))
def ch (J : JT) (nd wh pu : Int32) (n st : Nat) : Nat → Nat
  | 0 => 0
  | k + 1 => if chC J nd wh pu n st (k + 1) (ch J nd wh pu n st k) = true then k + 1 else ch J nd wh pu n st k
theorem ch_le (J : JT) (nd wh pu : Int32) (n st : Nat) : ∀ k, ch J nd wh pu n st k ≤ k
  | 0 => Nat.le_refl _
  | k + 1 => by
    have := ch_le J nd wh pu n st k
    unfold ch
    split <;> omega
def chP (J : JT) (n b : Nat) : Int32 := if b = 0 then 0 else pcB J b n
theorem chP_p {J : JT} {n b : Nat} (h : b ≠ 0) : chP J n b = pcB J b n := by unfold chP; rw [if_neg h]
def smB (J : JT) (n s s2 : Nat) : Bool := allB (fun t => decide (blN J n s (i3 t) = blN J n s2 (i3 t))) 10
def alC (J : JT) (n j s b : Nat) : Bool := (decide (b = 0) || decide (pop 6 s < pop 6 b)) && (decide (bt s j = 0) && smB J n s (2 ^ j))
def al (J : JT) (n j : Nat) : Nat → Nat
  | 0 => 0
  | k + 1 => if alC J n j (k + 1) (al J n j k) = true then k + 1 else al J n j k
theorem al_le (J : JT) (n j : Nat) : ∀ k, al J n j k ≤ k
  | 0 => Nat.le_refl _
  | k + 1 => by
    have := al_le J n j k
    unfold al
    split <;> omega
def cntB (f : Nat → Bool) : Nat → Nat
  | 0 => 0
  | k + 1 => cntB f k + (if f (k + 1) = true then 1 else 0)
theorem cntB_le (f : Nat → Bool) : ∀ k, cntB f k ≤ k
  | 0 => Nat.le_refl _
  | k + 1 => by
    have := cntB_le f k
    unfold cntB
    split <;> omega
def gdv (u l : Nat) : Nat → Nat
  | 0 => 1
  | d + 1 => if d = 0 then 1 else if u % (d + 1) = 0 ∧ l % (d + 1) = 0 then d + 1 else gdv u l d
theorem gdv_gcd : ∀ u, u < 64 → ∀ l, l < 64 → l ≠ 0 → gdv u l l = Nat.gcd u l := by decide +kernel
theorem rem_i3 : ∀ u, u < 64 → ∀ d, d < 64 → d ≠ 0 → i3 u - i3 u / i3 d * i3 d = i3 (u % d) := by decide +kernel
theorem pop_lt {s : Nat} (h : s < 64) : pop 6 s < 1000 := by have := pop_le s 6; omega
def hmB (J : JT) (n s : Nat) (q : Nat → Int32) (m : Nat) : Bool := allB (fun t => decide (blN J n s (i3 t) = q t)) m
def gjN (f : Nat → Bool) : Nat → Nat
  | 0 => 0
  | k + 1 => gjN f k + (if f k = true then 2 ^ k else 0)
theorem gjN_lt (f : Nat → Bool) : ∀ k, gjN f k < 2 ^ k
  | 0 => Nat.zero_lt_one
  | k + 1 => by
    have := gjN_lt f k
    show gjN f k + _ < _
    rw [Nat.pow_succ]
    split <;> omega
def fstB (f : Nat → Bool) : Nat → Nat
  | 0 => 0
  | k + 1 => if fstB f k ≠ 0 then fstB f k else if f (k + 1) = true then k + 1 else 0
theorem fstB_hit {f : Nat → Bool} {k n : Nat} (h : fstB f k = 0) (hf : f (k + 1) = true) (hn : k < n) : fstB f n = k + 1 := by
  induction n with
  | zero => omega
  | succ n ih =>
    by_cases e : k = n
    · subst e; unfold fstB; rw [if_neg (by omega), if_pos hf]
    · have := ih (by omega)
      unfold fstB; rw [if_pos (by omega)]; exact this
theorem fstB_no {f : Nat → Bool} {k : Nat} (h : fstB f k = 0) (hf : f (k + 1) = false) : fstB f (k + 1) = 0 := by
  unfold fstB; rw [if_neg (by omega), hf]; rfl
theorem d_Bl_longest_0 : decode c_Bl_longest 0 = .ok (.iconst 0, 1) := by decide +kernel
theorem d_Bl_longest_1 : decode c_Bl_longest 1 = .ok (.istore_n 3, 1) := by decide +kernel
theorem d_Bl_longest_2 : decode c_Bl_longest 2 = .ok (.iconst 0, 1) := by decide +kernel
theorem d_Bl_longest_3 : decode c_Bl_longest 3 = .ok (.istore 4, 2) := by decide +kernel
theorem d_Bl_longest_5 : decode c_Bl_longest 5 = .ok (.iconst 0, 1) := by decide +kernel
theorem d_Bl_longest_6 : decode c_Bl_longest 6 = .ok (.istore 5, 2) := by decide +kernel
theorem d_Bl_longest_8 : decode c_Bl_longest 8 = .ok (.iload 5, 2) := by decide +kernel
theorem d_Bl_longest_10 : decode c_Bl_longest 10 = .ok (.bipush 10, 2) := by decide +kernel
theorem d_Bl_longest_12 : decode c_Bl_longest 12 = .ok (.if_icmp .ge 37, 3) := by decide +kernel
theorem d_Bl_longest_15 : decode c_Bl_longest 15 = .ok (.aload_n 0, 1) := by decide +kernel
theorem d_Bl_longest_16 : decode c_Bl_longest 16 = .ok (.iload_n 1, 1) := by decide +kernel
theorem d_Bl_longest_17 : decode c_Bl_longest 17 = .ok (.iload 5, 2) := by decide +kernel
theorem d_Bl_longest_19 : decode c_Bl_longest 19 = .ok (.invokevirtual 9, 3) := by decide +kernel
theorem d_Bl_longest_22 : decode c_Bl_longest 22 = .ok (.iload_n 2, 1) := by decide +kernel
theorem d_Bl_longest_23 : decode c_Bl_longest 23 = .ok (.if_icmp .lt 10, 3) := by decide +kernel
theorem d_Bl_longest_26 : decode c_Bl_longest 26 = .ok (.iload 4, 2) := by decide +kernel
theorem d_Bl_longest_28 : decode c_Bl_longest 28 = .ok (.iconst 1, 1) := by decide +kernel
theorem d_Bl_longest_29 : decode c_Bl_longest 29 = .ok (.iadd, 1) := by decide +kernel
theorem d_Bl_longest_30 : decode c_Bl_longest 30 = .ok (.goto 4, 3) := by decide +kernel
theorem d_Bl_longest_33 : decode c_Bl_longest 33 = .ok (.iconst 0, 1) := by decide +kernel
theorem d_Bl_longest_34 : decode c_Bl_longest 34 = .ok (.istore 4, 2) := by decide +kernel
theorem d_Bl_longest_36 : decode c_Bl_longest 36 = .ok (.iload_n 3, 1) := by decide +kernel
theorem d_Bl_longest_37 : decode c_Bl_longest 37 = .ok (.iload 4, 2) := by decide +kernel
theorem d_Bl_longest_39 : decode c_Bl_longest 39 = .ok (.invokestatic 15, 3) := by decide +kernel
theorem d_Bl_longest_42 : decode c_Bl_longest 42 = .ok (.istore_n 3, 1) := by decide +kernel
theorem d_Bl_longest_43 : decode c_Bl_longest 43 = .ok (.iinc 5 1, 3) := by decide +kernel
theorem d_Bl_longest_46 : decode c_Bl_longest 46 = .ok (.goto (-38), 3) := by decide +kernel
theorem d_Bl_longest_49 : decode c_Bl_longest 49 = .ok (.iload_n 3, 1) := by decide +kernel
theorem d_Bl_longest_50 : decode c_Bl_longest 50 = .ok (.ireturn, 1) := by decide +kernel
theorem C_Bl_longest {M : MM} {n s : Nat} {J : JT} {v : Int32} (hJ : CJ M n J) (hs : s < 64) : AF y_Bl_longest c_Bl_longest 6 (some .int) 5 [vR 3, vI (i3 s), vI v] (M) (some (vI (hmost (fun t => blN J n s (i3 t)) v 10))) (M) := by
  refine AF.of k_Bl_longest (lo := [some (vR 3), some (vI (i3 s)), some (vI v), none, none, none]) rfl (Nat.le_of_ble_eq_true rfl) (fun X hX hR => ?_)
  refine v_iconst (pc := 0) (v := 0) hX (by decide) d_Bl_longest_0 ?_
  refine v_istore_n (pc := 1) (lo' := [some (vR _), some (vI _), some (vI _), some (vI _), none, none]) hX (Nat.le_of_ble_eq_true rfl) rfl d_Bl_longest_1 ?_
  refine v_iconst (pc := 2) (v := 0) hX (by decide) d_Bl_longest_2 ?_
  refine v_istore (pc := 3) (lo' := [some (vR _), some (vI _), some (vI _), some (vI _), some (vI _), none]) hX (Nat.le_of_ble_eq_true rfl) rfl d_Bl_longest_3 ?_
  refine v_iconst (pc := 5) (v := 0) hX (by decide) d_Bl_longest_5 ?_
  refine v_istore (pc := 6) (lo' := [some (vR _), some (vI _), some (vI _), some (vI _), some (vI _), some (vI _)]) hX (Nat.le_of_ble_eq_true rfl) rfl d_Bl_longest_6 ?_
  refine VW.cast (lo' := [some (vR 3), some (vI (i3 s)), some (vI v), some (vI (hmost (fun t => blN J n s (i3 t)) v 0)), some (vI (hrun (fun t => blN J n s (i3 t)) v 0)), some (vI (i3 0))]) (st' := []) (G' := gM (M)) rfl rfl rfl ?_
  refine v_for (X := X) (head := 8) (10) (fun kk => [some (vR 3), some (vI (i3 s)), some (vI v), some (vI (hmost (fun t => blN J n s (i3 t)) v kk)), some (vI (hrun (fun t => blN J n s (i3 t)) v kk)), some (vI (i3 kk))]) (fun kk => M) (fun k hk ih8 => ?_) ?_
  · show VW X 8 [some (vR 3), some (vI (i3 s)), some (vI v), some (vI (hmost (fun t => blN J n s (i3 t)) v k)), some (vI (hrun (fun t => blN J n s (i3 t)) v k)), some (vI (i3 k))] [] (gM (M))
    refine v_iload (pc := 8) hX rfl d_Bl_longest_8 ?_
    refine v_bipush (pc := 10) (v := 10) hX (by decide) d_Bl_longest_10 ?_
    refine v_icmp_ge (pc := 12) (tgt := 49) hX d_Bl_longest_12 rfl (fun h12 => False.elim (i3_ge_abs hk (by decide) h12)) (fun h12 => ?_)
    refine v_aload_n (pc := 15) hX rfl d_Bl_longest_15 ?_
    refine v_iload_n (pc := 16) hX rfl d_Bl_longest_16 ?_
    refine v_iload (pc := 17) hX rfl d_Bl_longest_17 ?_
    refine f_callV (pc := 19) hX k_Sp_markOf ki_Sp_markOf kv_Sp_markOf ml_Bl_9 (C_Sp_markOf hJ (by assumption)) rfl rfl rfl rfl rfl (Nat.le_of_ble_eq_true rfl) (Nat.le_of_ble_eq_true rfl) (Nat.le_of_ble_eq_true rfl) d_Bl_longest_19 ?_
    refine v_iload_n (pc := 22) hX rfl d_Bl_longest_22 ?_
    refine v_icmp_lt (pc := 23) (tgt := 33) hX d_Bl_longest_23 rfl (fun h23 => ?_) (fun h23 => ?_)
    · refine v_iconst (pc := 33) (v := 0) hX (by decide) d_Bl_longest_33 ?_
      refine v_istore (pc := 34) (lo' := [some (vR _), some (vI _), some (vI _), some (vI _), some (vI _), some (vI _)]) hX (Nat.le_of_ble_eq_true rfl) rfl d_Bl_longest_34 ?_
      refine v_iload_n (pc := 36) hX rfl d_Bl_longest_36 ?_
      refine v_iload (pc := 37) hX rfl d_Bl_longest_37 ?_
      refine g_max (pc := 39) hX ml_Bl_15 rfl (Nat.le_of_ble_eq_true rfl) (Nat.le_of_ble_eq_true rfl) d_Bl_longest_39 ?_
      refine v_istore_n (pc := 42) (lo' := [some (vR _), some (vI _), some (vI _), some (vI _), some (vI _), some (vI _)]) hX (Nat.le_of_ble_eq_true rfl) rfl d_Bl_longest_42 ?_
      refine v_iinc (pc := 43) (lo' := [some (vR _), some (vI _), some (vI _), some (vI _), some (vI _), some (vI _)]) hX rfl rfl d_Bl_longest_43 ?_
      refine v_goto (pc := 46) (tgt := 8) hX d_Bl_longest_46 rfl ?_
      exact VW.cast (by first | (simp only [hmost]; rw [i3_succ, hrun_ge (f := fun t => blN J n s (i3 t)) (Int32.not_lt.mp h23)]; rfl) | (simp only [hmost]; rw [i3_succ, hrun_lt (f := fun t => blN J n s (i3 t)) h23]; rfl)) rfl rfl ih8
    · refine v_iload (pc := 26) hX rfl d_Bl_longest_26 ?_
      refine v_iconst (pc := 28) (v := 1) hX (by decide) d_Bl_longest_28 ?_
      refine v_iadd (pc := 29) hX d_Bl_longest_29 ?_
      refine v_goto (pc := 30) (tgt := 34) hX d_Bl_longest_30 rfl ?_
      refine v_istore (pc := 34) (lo' := [some (vR _), some (vI _), some (vI _), some (vI _), some (vI _), some (vI _)]) hX (Nat.le_of_ble_eq_true rfl) rfl d_Bl_longest_34 ?_
      refine v_iload_n (pc := 36) hX rfl d_Bl_longest_36 ?_
      refine v_iload (pc := 37) hX rfl d_Bl_longest_37 ?_
      refine g_max (pc := 39) hX ml_Bl_15 rfl (Nat.le_of_ble_eq_true rfl) (Nat.le_of_ble_eq_true rfl) d_Bl_longest_39 ?_
      refine v_istore_n (pc := 42) (lo' := [some (vR _), some (vI _), some (vI _), some (vI _), some (vI _), some (vI _)]) hX (Nat.le_of_ble_eq_true rfl) rfl d_Bl_longest_42 ?_
      refine v_iinc (pc := 43) (lo' := [some (vR _), some (vI _), some (vI _), some (vI _), some (vI _), some (vI _)]) hX rfl rfl d_Bl_longest_43 ?_
      refine v_goto (pc := 46) (tgt := 8) hX d_Bl_longest_46 rfl ?_
      exact VW.cast (by first | (simp only [hmost]; rw [i3_succ, hrun_ge (f := fun t => blN J n s (i3 t)) (Int32.not_lt.mp h23)]; rfl) | (simp only [hmost]; rw [i3_succ, hrun_lt (f := fun t => blN J n s (i3 t)) h23]; rfl)) rfl rfl ih8
  · show VW X 8 [some (vR 3), some (vI (i3 s)), some (vI v), some (vI (hmost (fun t => blN J n s (i3 t)) v (10))), some (vI (hrun (fun t => blN J n s (i3 t)) v (10))), some (vI (i3 (10)))] [] (gM (M))
    refine v_iload (pc := 8) hX rfl d_Bl_longest_8 ?_
    refine v_bipush (pc := 10) (v := 10) hX (by decide) d_Bl_longest_10 ?_
    refine v_icmp_ge (pc := 12) (tgt := 49) hX d_Bl_longest_12 rfl (fun h12 => ?_) (fun h12 => False.elim (by revert h12; decide))
    refine v_iload_n (pc := 49) hX rfl d_Bl_longest_49 ?_
    exact f_iret (pc := 50) hX hR (rfl) (rfl) d_Bl_longest_50
theorem d_Bl_decides_0 : decode c_Bl_decides 0 = .ok (.aload_n 0, 1) := by decide +kernel
theorem d_Bl_decides_1 : decode c_Bl_decides 1 = .ok (.iload_n 2, 1) := by decide +kernel
theorem d_Bl_decides_2 : decode c_Bl_decides 2 = .ok (.aload_n 1, 1) := by decide +kernel
theorem d_Bl_decides_3 : decode c_Bl_decides 3 = .ok (.getfield 48, 3) := by decide +kernel
theorem d_Bl_decides_6 : decode c_Bl_decides 6 = .ok (.invokevirtual 9, 3) := by decide +kernel
theorem d_Bl_decides_9 : decode c_Bl_decides 9 = .ok (.aload_n 1, 1) := by decide +kernel
theorem d_Bl_decides_10 : decode c_Bl_decides 10 = .ok (.getfield 51, 3) := by decide +kernel
theorem d_Bl_decides_13 : decode c_Bl_decides 13 = .ok (.if_icmp .lt 7, 3) := by decide +kernel
theorem d_Bl_decides_16 : decode c_Bl_decides 16 = .ok (.iconst 1, 1) := by decide +kernel
theorem d_Bl_decides_17 : decode c_Bl_decides 17 = .ok (.goto 4, 3) := by decide +kernel
theorem d_Bl_decides_20 : decode c_Bl_decides 20 = .ok (.iconst 0, 1) := by decide +kernel
theorem d_Bl_decides_21 : decode c_Bl_decides 21 = .ok (.ireturn, 1) := by decide +kernel
theorem C_Bl_decides {M : MM} {n s d : Nat} {J : JT} (hJ : CJ M n J) (hs : s < 64) (hd : SH[d]? = some (0, 0)) : AF y_Bl_decides c_Bl_decides 3 (some .boolean) 5 [vR 3, vR d, vI (i3 s)] (M) (some (vI (bI (dcB J (M d 0) (M d 1) n s)))) (M) := by
  refine AF.of k_Bl_decides (lo := [some (vR 3), some (vR d), some (vI (i3 s))]) rfl (Nat.le_of_ble_eq_true rfl) (fun X hX hR => ?_)
  refine v_aload_n (pc := 0) hX rfl d_Bl_decides_0 ?_
  refine v_iload_n (pc := 1) hX rfl d_Bl_decides_1 ?_
  refine v_aload_n (pc := 2) hX rfl d_Bl_decides_2 ?_
  refine g_getI (pc := 3) hX fl_Bl_48 rfl (by assumption) d_Bl_decides_3 ?_
  refine f_callV (pc := 6) hX k_Sp_markOf ki_Sp_markOf kv_Sp_markOf ml_Bl_9 (C_Sp_markOf hJ (by assumption)) rfl rfl rfl rfl rfl (Nat.le_of_ble_eq_true rfl) (Nat.le_of_ble_eq_true rfl) (Nat.le_of_ble_eq_true rfl) d_Bl_decides_6 ?_
  refine v_aload_n (pc := 9) hX rfl d_Bl_decides_9 ?_
  refine g_getI (pc := 10) hX fl_Bl_51 rfl (by assumption) d_Bl_decides_10 ?_
  refine v_icmp_lt (pc := 13) (tgt := 20) hX d_Bl_decides_13 rfl (fun h13 => ?_) (fun h13 => ?_)
  · refine v_iconst (pc := 20) (v := 0) hX (by decide) d_Bl_decides_20 ?_
    exact f_zret (pc := 21) hX hR (by first | exact bT (decide_eq_true (Int32.not_lt.mp h13)) | exact bF (decide_eq_false (Int32.not_le.mpr h13))) (rfl) d_Bl_decides_21
  · refine v_iconst (pc := 16) (v := 1) hX (by decide) d_Bl_decides_16 ?_
    refine v_goto (pc := 17) (tgt := 21) hX d_Bl_decides_17 rfl ?_
    exact f_zret (pc := 21) hX hR (by first | exact bT (decide_eq_true (Int32.not_lt.mp h13)) | exact bF (decide_eq_false (Int32.not_le.mpr h13))) (rfl) d_Bl_decides_21
theorem d_Bl_cheapest_0 : decode c_Bl_cheapest 0 = .ok (.aload_n 0, 1) := by decide +kernel
theorem d_Bl_cheapest_1 : decode c_Bl_cheapest 1 = .ok (.invokevirtual 20, 3) := by decide +kernel
theorem d_Bl_cheapest_4 : decode c_Bl_cheapest 4 = .ok (.istore_n 2, 1) := by decide +kernel
theorem d_Bl_cheapest_5 : decode c_Bl_cheapest 5 = .ok (.bipush (-9), 2) := by decide +kernel
theorem d_Bl_cheapest_7 : decode c_Bl_cheapest 7 = .ok (.istore_n 3, 1) := by decide +kernel
theorem d_Bl_cheapest_8 : decode c_Bl_cheapest 8 = .ok (.iconst 0, 1) := by decide +kernel
theorem d_Bl_cheapest_9 : decode c_Bl_cheapest 9 = .ok (.istore 4, 2) := by decide +kernel
theorem d_Bl_cheapest_11 : decode c_Bl_cheapest 11 = .ok (.iconst 1, 1) := by decide +kernel
theorem d_Bl_cheapest_12 : decode c_Bl_cheapest 12 = .ok (.istore 5, 2) := by decide +kernel
theorem d_Bl_cheapest_14 : decode c_Bl_cheapest 14 = .ok (.iload 5, 2) := by decide +kernel
theorem d_Bl_cheapest_16 : decode c_Bl_cheapest 16 = .ok (.aload_n 0, 1) := by decide +kernel
theorem d_Bl_cheapest_17 : decode c_Bl_cheapest 17 = .ok (.invokevirtual 24, 3) := by decide +kernel
theorem d_Bl_cheapest_20 : decode c_Bl_cheapest 20 = .ok (.if_icmp .ge 96, 3) := by decide +kernel
theorem d_Bl_cheapest_23 : decode c_Bl_cheapest 23 = .ok (.aload_n 0, 1) := by decide +kernel
theorem d_Bl_cheapest_24 : decode c_Bl_cheapest 24 = .ok (.iload 5, 2) := by decide +kernel
theorem d_Bl_cheapest_26 : decode c_Bl_cheapest 26 = .ok (.invokevirtual 27, 3) := by decide +kernel
theorem d_Bl_cheapest_29 : decode c_Bl_cheapest 29 = .ok (.istore 6, 2) := by decide +kernel
theorem d_Bl_cheapest_31 : decode c_Bl_cheapest 31 = .ok (.iload 5, 2) := by decide +kernel
theorem d_Bl_cheapest_33 : decode c_Bl_cheapest 33 = .ok (.iload_n 2, 1) := by decide +kernel
theorem d_Bl_cheapest_34 : decode c_Bl_cheapest 34 = .ok (.iconst (-1), 1) := by decide +kernel
theorem d_Bl_cheapest_35 : decode c_Bl_cheapest 35 = .ok (.ixor, 1) := by decide +kernel
theorem d_Bl_cheapest_36 : decode c_Bl_cheapest 36 = .ok (.iand, 1) := by decide +kernel
theorem d_Bl_cheapest_37 : decode c_Bl_cheapest 37 = .ok (.ifCond .ne 26, 3) := by decide +kernel
theorem d_Bl_cheapest_40 : decode c_Bl_cheapest 40 = .ok (.iload 6, 2) := by decide +kernel
theorem d_Bl_cheapest_42 : decode c_Bl_cheapest 42 = .ok (.aload_n 1, 1) := by decide +kernel
theorem d_Bl_cheapest_43 : decode c_Bl_cheapest 43 = .ok (.getfield 31, 3) := by decide +kernel
theorem d_Bl_cheapest_46 : decode c_Bl_cheapest 46 = .ok (.if_icmp .gt 17, 3) := by decide +kernel
theorem d_Bl_cheapest_49 : decode c_Bl_cheapest 49 = .ok (.aload_n 0, 1) := by decide +kernel
theorem d_Bl_cheapest_50 : decode c_Bl_cheapest 50 = .ok (.aload_n 1, 1) := by decide +kernel
theorem d_Bl_cheapest_51 : decode c_Bl_cheapest 51 = .ok (.iload 5, 2) := by decide +kernel
theorem d_Bl_cheapest_53 : decode c_Bl_cheapest 53 = .ok (.invokestatic 37, 3) := by decide +kernel
theorem d_Bl_cheapest_56 : decode c_Bl_cheapest 56 = .ok (.ifCond .eq 7, 3) := by decide +kernel
theorem d_Bl_cheapest_59 : decode c_Bl_cheapest 59 = .ok (.iconst 1, 1) := by decide +kernel
theorem d_Bl_cheapest_60 : decode c_Bl_cheapest 60 = .ok (.goto 4, 3) := by decide +kernel
theorem d_Bl_cheapest_63 : decode c_Bl_cheapest 63 = .ok (.iconst 0, 1) := by decide +kernel
theorem d_Bl_cheapest_64 : decode c_Bl_cheapest 64 = .ok (.istore 7, 2) := by decide +kernel
theorem d_Bl_cheapest_66 : decode c_Bl_cheapest 66 = .ok (.iload 7, 2) := by decide +kernel
theorem d_Bl_cheapest_68 : decode c_Bl_cheapest 68 = .ok (.ifCond .eq 42, 3) := by decide +kernel
theorem d_Bl_cheapest_71 : decode c_Bl_cheapest 71 = .ok (.iload_n 3, 1) := by decide +kernel
theorem d_Bl_cheapest_72 : decode c_Bl_cheapest 72 = .ok (.bipush (-9), 2) := by decide +kernel
theorem d_Bl_cheapest_74 : decode c_Bl_cheapest 74 = .ok (.if_icmp .eq 29, 3) := by decide +kernel
theorem d_Bl_cheapest_77 : decode c_Bl_cheapest 77 = .ok (.iload 6, 2) := by decide +kernel
theorem d_Bl_cheapest_79 : decode c_Bl_cheapest 79 = .ok (.iload 4, 2) := by decide +kernel
theorem d_Bl_cheapest_81 : decode c_Bl_cheapest 81 = .ok (.if_icmp .lt 22, 3) := by decide +kernel
theorem d_Bl_cheapest_84 : decode c_Bl_cheapest 84 = .ok (.iload 6, 2) := by decide +kernel
theorem d_Bl_cheapest_86 : decode c_Bl_cheapest 86 = .ok (.iload 4, 2) := by decide +kernel
theorem d_Bl_cheapest_88 : decode c_Bl_cheapest 88 = .ok (.if_icmp .ne 22, 3) := by decide +kernel
theorem d_Bl_cheapest_91 : decode c_Bl_cheapest 91 = .ok (.iload 5, 2) := by decide +kernel
theorem d_Bl_cheapest_93 : decode c_Bl_cheapest 93 = .ok (.invokestatic 43, 3) := by decide +kernel
theorem d_Bl_cheapest_96 : decode c_Bl_cheapest 96 = .ok (.iload_n 3, 1) := by decide +kernel
theorem d_Bl_cheapest_97 : decode c_Bl_cheapest 97 = .ok (.invokestatic 43, 3) := by decide +kernel
theorem d_Bl_cheapest_100 : decode c_Bl_cheapest 100 = .ok (.if_icmp .ge 10, 3) := by decide +kernel
theorem d_Bl_cheapest_103 : decode c_Bl_cheapest 103 = .ok (.iload 5, 2) := by decide +kernel
theorem d_Bl_cheapest_105 : decode c_Bl_cheapest 105 = .ok (.istore_n 3, 1) := by decide +kernel
theorem d_Bl_cheapest_106 : decode c_Bl_cheapest 106 = .ok (.iload 6, 2) := by decide +kernel
theorem d_Bl_cheapest_108 : decode c_Bl_cheapest 108 = .ok (.istore 4, 2) := by decide +kernel
theorem d_Bl_cheapest_110 : decode c_Bl_cheapest 110 = .ok (.iinc 5 1, 3) := by decide +kernel
theorem d_Bl_cheapest_113 : decode c_Bl_cheapest 113 = .ok (.goto (-99), 3) := by decide +kernel
theorem d_Bl_cheapest_116 : decode c_Bl_cheapest 116 = .ok (.iload_n 3, 1) := by decide +kernel
theorem d_Bl_cheapest_117 : decode c_Bl_cheapest 117 = .ok (.ireturn, 1) := by decide +kernel
set_option maxHeartbeats 4000000 in
theorem C_Bl_cheapest {M : MM} {n d : Nat} {J : JT} (hJ : CJ M n J) (hd : SH[d]? = some (0, 0)) : AF y_Bl_cheapest c_Bl_cheapest 8 (some .int) 6 [vR 3, vR d] (M) (some (vI (en (ch J (M d 0) (M d 1) (M d 2) n (stN J n) (2 ^ n - 1))))) (M) := by
  have h6 := hJ.1
  have hM := hJ.2.1
  have hp := pow6 h6
  have hst : stN J n < 64 := Nat.lt_of_lt_of_le (stN_lt J n) hp
  refine AF.of k_Bl_cheapest (lo := [some (vR 3), some (vR d), none, none, none, none, none, none]) rfl (Nat.le_of_ble_eq_true rfl) (fun X hX hR => ?_)
  refine v_aload_n (pc := 0) hX rfl d_Bl_cheapest_0 ?_
  refine f_callV (pc := 1) hX k_Sp_stocked ki_Sp_stocked kv_Sp_stocked ml_Bl_20 (C_Sp_stocked hJ) rfl rfl rfl rfl rfl (Nat.le_of_ble_eq_true rfl) (Nat.le_of_ble_eq_true rfl) (Nat.le_of_ble_eq_true rfl) d_Bl_cheapest_1 ?_
  refine v_istore_n (pc := 4) (lo' := [some (vR _), some (vR _), some (vI _), none, none, none, none, none]) hX (Nat.le_of_ble_eq_true rfl) rfl d_Bl_cheapest_4 ?_
  refine v_bipush (pc := 5) (v := (-9)) hX (by decide) d_Bl_cheapest_5 ?_
  refine v_istore_n (pc := 7) (lo' := [some (vR _), some (vR _), some (vI _), some (vI _), none, none, none, none]) hX (Nat.le_of_ble_eq_true rfl) rfl d_Bl_cheapest_7 ?_
  refine v_iconst (pc := 8) (v := 0) hX (by decide) d_Bl_cheapest_8 ?_
  refine v_istore (pc := 9) (lo' := [some (vR _), some (vR _), some (vI _), some (vI _), some (vI _), none, none, none]) hX (Nat.le_of_ble_eq_true rfl) rfl d_Bl_cheapest_9 ?_
  refine v_iconst (pc := 11) (v := 1) hX (by decide) d_Bl_cheapest_11 ?_
  refine v_istore (pc := 12) (lo' := [some (vR _), some (vR _), some (vI _), some (vI _), some (vI _), some (vI _), none, none]) hX (Nat.le_of_ble_eq_true rfl) rfl d_Bl_cheapest_12 ?_
  refine VW.cast (lo' := [some (vR 3), some (vR d), some (vI (i3 (stN J n))), some (vI (en (ch J (M d 0) (M d 1) (M d 2) n (stN J n) 0))), some (vI (chP J n (ch J (M d 0) (M d 1) (M d 2) n (stN J n) 0))), some (vI (i3 (0 + 1))), none, none]) (st' := []) (G' := gM (M)) rfl rfl rfl ?_
  refine v_for (X := X) (head := 14) (2 ^ n - 1) (fun kk => [some (vR 3), some (vR d), some (vI (i3 (stN J n))), some (vI (en (ch J (M d 0) (M d 1) (M d 2) n (stN J n) kk))), some (vI (chP J n (ch J (M d 0) (M d 1) (M d 2) n (stN J n) kk))), some (vI (i3 (kk + 1))), none, none]) (fun kk => M) (fun k hk ih14 => ?_) ?_
  · show VW X 14 [some (vR 3), some (vR d), some (vI (i3 (stN J n))), some (vI (en (ch J (M d 0) (M d 1) (M d 2) n (stN J n) k))), some (vI (chP J n (ch J (M d 0) (M d 1) (M d 2) n (stN J n) k))), some (vI (i3 (k + 1))), none, none] [] (gM (M))
    have hs : k + 1 < 64 := by omega
    have hcl := ch_le J (M d 0) (M d 1) (M d 2) n (stN J n) k
    have hc6 : ch J (M d 0) (M d 1) (M d 2) n (stN J n) k < 64 := by omega
    refine v_iload (pc := 14) hX rfl d_Bl_cheapest_14 ?_
    refine v_aload_n (pc := 16) hX rfl d_Bl_cheapest_16 ?_
    refine f_callV (pc := 17) hX k_Sp_setsEnd ki_Sp_setsEnd kv_Sp_setsEnd ml_Bl_24 (C_Sp_setsEnd hJ) rfl rfl rfl rfl rfl (Nat.le_of_ble_eq_true rfl) (Nat.le_of_ble_eq_true rfl) (Nat.le_of_ble_eq_true rfl) d_Bl_cheapest_17 ?_
    refine v_icmp_ge (pc := 20) (tgt := 116) hX d_Bl_cheapest_20 rfl (fun h20 => False.elim (i3_ge_abs (k := k + 1) (n := 2 ^ n) (by omega) (by omega) h20)) (fun h20 => ?_)
    refine v_aload_n (pc := 23) hX rfl d_Bl_cheapest_23 ?_
    refine v_iload (pc := 24) hX rfl d_Bl_cheapest_24 ?_
    refine f_callV (pc := 26) hX k_Sp_penceOf ki_Sp_penceOf kv_Sp_penceOf ml_Bl_27 (C_Sp_penceOf hJ (by assumption)) rfl rfl rfl rfl rfl (Nat.le_of_ble_eq_true rfl) (Nat.le_of_ble_eq_true rfl) (Nat.le_of_ble_eq_true rfl) d_Bl_cheapest_26 ?_
    refine v_istore (pc := 29) (lo' := [some (vR _), some (vR _), some (vI _), some (vI _), some (vI _), some (vI _), some (vI _), none]) hX (Nat.le_of_ble_eq_true rfl) rfl d_Bl_cheapest_29 ?_
    refine v_iload (pc := 31) hX rfl d_Bl_cheapest_31 ?_
    refine v_iload_n (pc := 33) hX rfl d_Bl_cheapest_33 ?_
    refine v_iconst (pc := 34) (v := (-1)) hX (by decide) d_Bl_cheapest_34 ?_
    refine v_ixor (pc := 35) hX d_Bl_cheapest_35 ?_
    refine v_iand (pc := 36) hX d_Bl_cheapest_36 ?_
    refine v_if_ne (pc := 37) (tgt := 63) hX d_Bl_cheapest_37 rfl (fun h37 => ?_) (fun h37 => ?_)
    · have a1 := sb_f hs hst h37
      have e : ch J (M d 0) (M d 1) (M d 2) n (stN J n) (k + 1) = ch J (M d 0) (M d 1) (M d 2) n (stN J n) k := if_neg (by simp [chC, a1])
      refine v_iconst (pc := 63) (v := 0) hX (by decide) d_Bl_cheapest_63 ?_
      refine v_istore (pc := 64) (lo' := [some (vR _), some (vR _), some (vI _), some (vI _), some (vI _), some (vI _), some (vI _), some (vI _)]) hX (Nat.le_of_ble_eq_true rfl) rfl d_Bl_cheapest_64 ?_
      refine v_iload (pc := 66) hX rfl d_Bl_cheapest_66 ?_
      refine v_if_eq (pc := 68) (tgt := 110) hX d_Bl_cheapest_68 rfl (fun h68 => ?_) (fun h68 => False.elim (by revert h68; decide))
      refine v_iinc (pc := 110) (lo' := [some (vR _), some (vR _), some (vI _), some (vI _), some (vI _), some (vI _), some (vI _), some (vI _)]) hX rfl rfl d_Bl_cheapest_110 ?_
      refine v_goto (pc := 113) (tgt := 14) hX d_Bl_cheapest_113 rfl ?_
      refine VW.fg [true, true, true, true, true, true, false, false] ?_
      exact VW.cast (by first | (rw [e, en_p (Nat.succ_ne_zero k), chP_p (Nat.succ_ne_zero k), i3_succ (k + 1)]; rfl) | (rw [e, i3_succ (k + 1)]; rfl) | (rw [e, i3_succ (k + 1), en_p a4, chP_p a4]; rfl)) rfl rfl ih14
    · have a1 := sb_t hs hst h37
      refine v_iload (pc := 40) hX rfl d_Bl_cheapest_40 ?_
      refine v_aload_n (pc := 42) hX rfl d_Bl_cheapest_42 ?_
      refine g_getI (pc := 43) hX fl_Bl_31 rfl (by assumption) d_Bl_cheapest_43 ?_
      refine v_icmp_gt (pc := 46) (tgt := 63) hX d_Bl_cheapest_46 rfl (fun h46 => ?_) (fun h46 => ?_)
      · have a2 : ¬ pcB J (k + 1) n ≤ M d 2 := Int32.not_le.mpr h46
        have e : ch J (M d 0) (M d 1) (M d 2) n (stN J n) (k + 1) = ch J (M d 0) (M d 1) (M d 2) n (stN J n) k := if_neg (by simp [chC, a2])
        refine v_iconst (pc := 63) (v := 0) hX (by decide) d_Bl_cheapest_63 ?_
        refine v_istore (pc := 64) (lo' := [some (vR _), some (vR _), some (vI _), some (vI _), some (vI _), some (vI _), some (vI _), some (vI _)]) hX (Nat.le_of_ble_eq_true rfl) rfl d_Bl_cheapest_64 ?_
        refine v_iload (pc := 66) hX rfl d_Bl_cheapest_66 ?_
        refine v_if_eq (pc := 68) (tgt := 110) hX d_Bl_cheapest_68 rfl (fun h68 => ?_) (fun h68 => False.elim (by revert h68; decide))
        refine v_iinc (pc := 110) (lo' := [some (vR _), some (vR _), some (vI _), some (vI _), some (vI _), some (vI _), some (vI _), some (vI _)]) hX rfl rfl d_Bl_cheapest_110 ?_
        refine v_goto (pc := 113) (tgt := 14) hX d_Bl_cheapest_113 rfl ?_
        refine VW.fg [true, true, true, true, true, true, false, false] ?_
        exact VW.cast (by first | (rw [e, en_p (Nat.succ_ne_zero k), chP_p (Nat.succ_ne_zero k), i3_succ (k + 1)]; rfl) | (rw [e, i3_succ (k + 1)]; rfl) | (rw [e, i3_succ (k + 1), en_p a4, chP_p a4]; rfl)) rfl rfl ih14
      · have a2 : pcB J (k + 1) n ≤ M d 2 := Int32.not_lt.mp h46
        refine v_aload_n (pc := 49) hX rfl d_Bl_cheapest_49 ?_
        refine v_aload_n (pc := 50) hX rfl d_Bl_cheapest_50 ?_
        refine v_iload (pc := 51) hX rfl d_Bl_cheapest_51 ?_
        refine f_callS (pc := 53) hX k_Bl_decides ks_Bl_decides ml_Bl_37 (C_Bl_decides hJ (by assumption) (by assumption)) rfl rfl rfl (Nat.le_of_ble_eq_true rfl) (Nat.le_of_ble_eq_true rfl) (Nat.le_of_ble_eq_true rfl) d_Bl_cheapest_53 ?_
        refine f_ifeqB (pc := 56) (tgt := 63) hX d_Bl_cheapest_56 rfl (fun h56 => ?_) (fun h56 => ?_)
        · have e : ch J (M d 0) (M d 1) (M d 2) n (stN J n) (k + 1) = ch J (M d 0) (M d 1) (M d 2) n (stN J n) k := if_neg (by simp [chC, h56])
          refine v_iconst (pc := 63) (v := 0) hX (by decide) d_Bl_cheapest_63 ?_
          refine v_istore (pc := 64) (lo' := [some (vR _), some (vR _), some (vI _), some (vI _), some (vI _), some (vI _), some (vI _), some (vI _)]) hX (Nat.le_of_ble_eq_true rfl) rfl d_Bl_cheapest_64 ?_
          refine v_iload (pc := 66) hX rfl d_Bl_cheapest_66 ?_
          refine v_if_eq (pc := 68) (tgt := 110) hX d_Bl_cheapest_68 rfl (fun h68 => ?_) (fun h68 => False.elim (by revert h68; decide))
          refine v_iinc (pc := 110) (lo' := [some (vR _), some (vR _), some (vI _), some (vI _), some (vI _), some (vI _), some (vI _), some (vI _)]) hX rfl rfl d_Bl_cheapest_110 ?_
          refine v_goto (pc := 113) (tgt := 14) hX d_Bl_cheapest_113 rfl ?_
          refine VW.fg [true, true, true, true, true, true, false, false] ?_
          exact VW.cast (by first | (rw [e, en_p (Nat.succ_ne_zero k), chP_p (Nat.succ_ne_zero k), i3_succ (k + 1)]; rfl) | (rw [e, i3_succ (k + 1)]; rfl) | (rw [e, i3_succ (k + 1), en_p a4, chP_p a4]; rfl)) rfl rfl ih14
        · refine v_iconst (pc := 59) (v := 1) hX (by decide) d_Bl_cheapest_59 ?_
          refine v_goto (pc := 60) (tgt := 64) hX d_Bl_cheapest_60 rfl ?_
          refine v_istore (pc := 64) (lo' := [some (vR _), some (vR _), some (vI _), some (vI _), some (vI _), some (vI _), some (vI _), some (vI _)]) hX (Nat.le_of_ble_eq_true rfl) rfl d_Bl_cheapest_64 ?_
          refine v_iload (pc := 66) hX rfl d_Bl_cheapest_66 ?_
          refine v_if_eq (pc := 68) (tgt := 110) hX d_Bl_cheapest_68 rfl (fun h68 => False.elim (by revert h68; decide)) (fun h68 => ?_)
          refine v_iload_n (pc := 71) hX rfl d_Bl_cheapest_71 ?_
          refine v_bipush (pc := 72) (v := (-9)) hX (by decide) d_Bl_cheapest_72 ?_
          refine v_icmp_eq (pc := 74) (tgt := 103) hX d_Bl_cheapest_74 rfl (fun h74 => ?_) (fun h74 => ?_)
          · have a4 := (en_none hc6).mp h74
            have e : ch J (M d 0) (M d 1) (M d 2) n (stN J n) (k + 1) = k + 1 := if_pos (by simp [chC, a1, a2, h56, a4])
            refine v_iload (pc := 103) hX rfl d_Bl_cheapest_103 ?_
            refine v_istore_n (pc := 105) (lo' := [some (vR _), some (vR _), some (vI _), some (vI _), some (vI _), some (vI _), some (vI _), some (vI _)]) hX (Nat.le_of_ble_eq_true rfl) rfl d_Bl_cheapest_105 ?_
            refine v_iload (pc := 106) hX rfl d_Bl_cheapest_106 ?_
            refine v_istore (pc := 108) (lo' := [some (vR _), some (vR _), some (vI _), some (vI _), some (vI _), some (vI _), some (vI _), some (vI _)]) hX (Nat.le_of_ble_eq_true rfl) rfl d_Bl_cheapest_108 ?_
            refine v_iinc (pc := 110) (lo' := [some (vR _), some (vR _), some (vI _), some (vI _), some (vI _), some (vI _), some (vI _), some (vI _)]) hX rfl rfl d_Bl_cheapest_110 ?_
            refine v_goto (pc := 113) (tgt := 14) hX d_Bl_cheapest_113 rfl ?_
            refine VW.fg [true, true, true, true, true, true, false, false] ?_
            exact VW.cast (by first | (rw [e, en_p (Nat.succ_ne_zero k), chP_p (Nat.succ_ne_zero k), i3_succ (k + 1)]; rfl) | (rw [e, i3_succ (k + 1)]; rfl) | (rw [e, i3_succ (k + 1), en_p a4, chP_p a4]; rfl)) rfl rfl ih14
          · have a4 : ¬ ch J (M d 0) (M d 1) (M d 2) n (stN J n) k = 0 := fun q => h74 ((en_none hc6).mpr q)
            rw [chP_p a4, en_p a4]
            refine v_iload (pc := 77) hX rfl d_Bl_cheapest_77 ?_
            refine v_iload (pc := 79) hX rfl d_Bl_cheapest_79 ?_
            refine v_icmp_lt (pc := 81) (tgt := 103) hX d_Bl_cheapest_81 rfl (fun h81 => ?_) (fun h81 => ?_)
            · have a5 := h81
              have e : ch J (M d 0) (M d 1) (M d 2) n (stN J n) (k + 1) = k + 1 := if_pos (by simp [chC, a1, a2, h56, a4, a5])
              refine v_iload (pc := 103) hX rfl d_Bl_cheapest_103 ?_
              refine v_istore_n (pc := 105) (lo' := [some (vR _), some (vR _), some (vI _), some (vI _), some (vI _), some (vI _), some (vI _), some (vI _)]) hX (Nat.le_of_ble_eq_true rfl) rfl d_Bl_cheapest_105 ?_
              refine v_iload (pc := 106) hX rfl d_Bl_cheapest_106 ?_
              refine v_istore (pc := 108) (lo' := [some (vR _), some (vR _), some (vI _), some (vI _), some (vI _), some (vI _), some (vI _), some (vI _)]) hX (Nat.le_of_ble_eq_true rfl) rfl d_Bl_cheapest_108 ?_
              refine v_iinc (pc := 110) (lo' := [some (vR _), some (vR _), some (vI _), some (vI _), some (vI _), some (vI _), some (vI _), some (vI _)]) hX rfl rfl d_Bl_cheapest_110 ?_
              refine v_goto (pc := 113) (tgt := 14) hX d_Bl_cheapest_113 rfl ?_
              refine VW.fg [true, true, true, true, true, true, false, false] ?_
              exact VW.cast (by first | (rw [e, en_p (Nat.succ_ne_zero k), chP_p (Nat.succ_ne_zero k), i3_succ (k + 1)]; rfl) | (rw [e, i3_succ (k + 1)]; rfl) | (rw [e, i3_succ (k + 1), en_p a4, chP_p a4]; rfl)) rfl rfl ih14
            · have a5 := h81
              refine v_iload (pc := 84) hX rfl d_Bl_cheapest_84 ?_
              refine v_iload (pc := 86) hX rfl d_Bl_cheapest_86 ?_
              refine v_icmp_ne (pc := 88) (tgt := 110) hX d_Bl_cheapest_88 rfl (fun h88 => ?_) (fun h88 => ?_)
              · have a6 := h88
                have e : ch J (M d 0) (M d 1) (M d 2) n (stN J n) (k + 1) = ch J (M d 0) (M d 1) (M d 2) n (stN J n) k := if_neg (by simp [chC, a4, a5, a6])
                refine v_iinc (pc := 110) (lo' := [some (vR _), some (vR _), some (vI _), some (vI _), some (vI _), some (vI _), some (vI _), some (vI _)]) hX rfl rfl d_Bl_cheapest_110 ?_
                refine v_goto (pc := 113) (tgt := 14) hX d_Bl_cheapest_113 rfl ?_
                refine VW.fg [true, true, true, true, true, true, false, false] ?_
                exact VW.cast (by first | (rw [e, en_p (Nat.succ_ne_zero k), chP_p (Nat.succ_ne_zero k), i3_succ (k + 1)]; rfl) | (rw [e, i3_succ (k + 1)]; rfl) | (rw [e, i3_succ (k + 1), en_p a4, chP_p a4]; rfl)) rfl rfl ih14
              · have a6 := h88
                refine v_iload (pc := 91) hX rfl d_Bl_cheapest_91 ?_
                refine f_callS (pc := 93) hX k_jI_bitCount ks_jI_bitCount ml_Bl_43 (C_jI_bitCount) rfl rfl rfl (Nat.le_of_ble_eq_true rfl) (Nat.le_of_ble_eq_true rfl) (Nat.le_of_ble_eq_true rfl) d_Bl_cheapest_93 ?_
                refine v_iload_n (pc := 96) hX rfl d_Bl_cheapest_96 ?_
                refine f_callS (pc := 97) hX k_jI_bitCount ks_jI_bitCount ml_Bl_43 (C_jI_bitCount) rfl rfl rfl (Nat.le_of_ble_eq_true rfl) (Nat.le_of_ble_eq_true rfl) (Nat.le_of_ble_eq_true rfl) d_Bl_cheapest_97 ?_
                refine v_icmp_ge (pc := 100) (tgt := 110) hX d_Bl_cheapest_100 rfl (fun h100 => ?_) (fun h100 => ?_)
                · rw [jbc_pop _ hs, jbc_pop _ hc6] at h100
                  have a7 : ¬ pop 6 (k + 1) < pop 6 (ch J (M d 0) (M d 1) (M d 2) n (stN J n) k) := by
                    have := (i3_le (by have := pop_lt hc6; omega) (by have := pop_lt hs; omega)).mp h100
                    omega
                  have e : ch J (M d 0) (M d 1) (M d 2) n (stN J n) (k + 1) = ch J (M d 0) (M d 1) (M d 2) n (stN J n) k := if_neg (by simp [chC, a4, a5, a6, a7])
                  refine v_iinc (pc := 110) (lo' := [some (vR _), some (vR _), some (vI _), some (vI _), some (vI _), some (vI _), some (vI _), some (vI _)]) hX rfl rfl d_Bl_cheapest_110 ?_
                  refine v_goto (pc := 113) (tgt := 14) hX d_Bl_cheapest_113 rfl ?_
                  refine VW.fg [true, true, true, true, true, true, false, false] ?_
                  exact VW.cast (by first | (rw [e, en_p (Nat.succ_ne_zero k), chP_p (Nat.succ_ne_zero k), i3_succ (k + 1)]; rfl) | (rw [e, i3_succ (k + 1)]; rfl) | (rw [e, i3_succ (k + 1), en_p a4, chP_p a4]; rfl)) rfl rfl ih14
                · rw [jbc_pop _ hs, jbc_pop _ hc6] at h100
                  have a7 : pop 6 (k + 1) < pop 6 (ch J (M d 0) (M d 1) (M d 2) n (stN J n) k) := by
                    exact Nat.lt_of_not_le (fun q => h100 ((i3_le (by have := pop_lt hc6; omega) (by have := pop_lt hs; omega)).mpr q))
                  have e : ch J (M d 0) (M d 1) (M d 2) n (stN J n) (k + 1) = k + 1 := if_pos (by simp [chC, a1, a2, h56, a4, a5, a6.symm, a7])
                  refine v_iload (pc := 103) hX rfl d_Bl_cheapest_103 ?_
                  refine v_istore_n (pc := 105) (lo' := [some (vR _), some (vR _), some (vI _), some (vI _), some (vI _), some (vI _), some (vI _), some (vI _)]) hX (Nat.le_of_ble_eq_true rfl) rfl d_Bl_cheapest_105 ?_
                  refine v_iload (pc := 106) hX rfl d_Bl_cheapest_106 ?_
                  refine v_istore (pc := 108) (lo' := [some (vR _), some (vR _), some (vI _), some (vI _), some (vI _), some (vI _), some (vI _), some (vI _)]) hX (Nat.le_of_ble_eq_true rfl) rfl d_Bl_cheapest_108 ?_
                  refine v_iinc (pc := 110) (lo' := [some (vR _), some (vR _), some (vI _), some (vI _), some (vI _), some (vI _), some (vI _), some (vI _)]) hX rfl rfl d_Bl_cheapest_110 ?_
                  refine v_goto (pc := 113) (tgt := 14) hX d_Bl_cheapest_113 rfl ?_
                  refine VW.fg [true, true, true, true, true, true, false, false] ?_
                  exact VW.cast (by first | (rw [e, en_p (Nat.succ_ne_zero k), chP_p (Nat.succ_ne_zero k), i3_succ (k + 1)]; rfl) | (rw [e, i3_succ (k + 1)]; rfl) | (rw [e, i3_succ (k + 1), en_p a4, chP_p a4]; rfl)) rfl rfl ih14
  · show VW X 14 [some (vR 3), some (vR d), some (vI (i3 (stN J n))), some (vI (en (ch J (M d 0) (M d 1) (M d 2) n (stN J n) (2 ^ n - 1)))), some (vI (chP J n (ch J (M d 0) (M d 1) (M d 2) n (stN J n) (2 ^ n - 1)))), some (vI (i3 ((2 ^ n - 1) + 1))), none, none] [] (gM (M))
    refine v_iload (pc := 14) hX rfl d_Bl_cheapest_14 ?_
    refine v_aload_n (pc := 16) hX rfl d_Bl_cheapest_16 ?_
    refine f_callV (pc := 17) hX k_Sp_setsEnd ki_Sp_setsEnd kv_Sp_setsEnd ml_Bl_24 (C_Sp_setsEnd hJ) rfl rfl rfl rfl rfl (Nat.le_of_ble_eq_true rfl) (Nat.le_of_ble_eq_true rfl) (Nat.le_of_ble_eq_true rfl) d_Bl_cheapest_17 ?_
    refine v_icmp_ge (pc := 20) (tgt := 116) hX d_Bl_cheapest_20 rfl (fun h20 => ?_) (fun h20 => False.elim (absurd set_end h20))
    refine v_iload_n (pc := 116) hX rfl d_Bl_cheapest_116 ?_
    exact f_iret (pc := 117) hX hR (rfl) (rfl) d_Bl_cheapest_117
theorem d_Bl_isSameMarked_0 : decode c_Bl_isSameMarked 0 = .ok (.iconst 0, 1) := by decide +kernel
theorem d_Bl_isSameMarked_1 : decode c_Bl_isSameMarked 1 = .ok (.istore_n 3, 1) := by decide +kernel
theorem d_Bl_isSameMarked_2 : decode c_Bl_isSameMarked 2 = .ok (.iload_n 3, 1) := by decide +kernel
theorem d_Bl_isSameMarked_3 : decode c_Bl_isSameMarked 3 = .ok (.bipush 10, 2) := by decide +kernel
theorem d_Bl_isSameMarked_5 : decode c_Bl_isSameMarked 5 = .ok (.if_icmp .ge 26, 3) := by decide +kernel
theorem d_Bl_isSameMarked_8 : decode c_Bl_isSameMarked 8 = .ok (.aload_n 0, 1) := by decide +kernel
theorem d_Bl_isSameMarked_9 : decode c_Bl_isSameMarked 9 = .ok (.iload_n 1, 1) := by decide +kernel
theorem d_Bl_isSameMarked_10 : decode c_Bl_isSameMarked 10 = .ok (.iload_n 3, 1) := by decide +kernel
theorem d_Bl_isSameMarked_11 : decode c_Bl_isSameMarked 11 = .ok (.invokevirtual 9, 3) := by decide +kernel
theorem d_Bl_isSameMarked_14 : decode c_Bl_isSameMarked 14 = .ok (.aload_n 0, 1) := by decide +kernel
theorem d_Bl_isSameMarked_15 : decode c_Bl_isSameMarked 15 = .ok (.iload_n 2, 1) := by decide +kernel
theorem d_Bl_isSameMarked_16 : decode c_Bl_isSameMarked 16 = .ok (.iload_n 3, 1) := by decide +kernel
theorem d_Bl_isSameMarked_17 : decode c_Bl_isSameMarked 17 = .ok (.invokevirtual 9, 3) := by decide +kernel
theorem d_Bl_isSameMarked_20 : decode c_Bl_isSameMarked 20 = .ok (.if_icmp .eq 5, 3) := by decide +kernel
theorem d_Bl_isSameMarked_23 : decode c_Bl_isSameMarked 23 = .ok (.iconst 0, 1) := by decide +kernel
theorem d_Bl_isSameMarked_24 : decode c_Bl_isSameMarked 24 = .ok (.ireturn, 1) := by decide +kernel
theorem d_Bl_isSameMarked_25 : decode c_Bl_isSameMarked 25 = .ok (.iinc 3 1, 3) := by decide +kernel
theorem d_Bl_isSameMarked_28 : decode c_Bl_isSameMarked 28 = .ok (.goto (-26), 3) := by decide +kernel
theorem d_Bl_isSameMarked_31 : decode c_Bl_isSameMarked 31 = .ok (.iconst 1, 1) := by decide +kernel
theorem d_Bl_isSameMarked_32 : decode c_Bl_isSameMarked 32 = .ok (.ireturn, 1) := by decide +kernel
theorem C_Bl_isSameMarked {M : MM} {n s t : Nat} {J : JT} (hJ : CJ M n J) (hs : s < 64) (ht : t < 64) : AF y_Bl_isSameMarked c_Bl_isSameMarked 4 (some .boolean) 5 [vR 3, vI (i3 s), vI (i3 t)] (M) (some (vI (bI (smB J n s t)))) (M) := by
  refine AF.of k_Bl_isSameMarked (lo := [some (vR 3), some (vI (i3 s)), some (vI (i3 t)), none]) rfl (Nat.le_of_ble_eq_true rfl) (fun X hX hR => ?_)
  refine v_iconst (pc := 0) (v := 0) hX (by decide) d_Bl_isSameMarked_0 ?_
  refine v_istore_n (pc := 1) (lo' := [some (vR _), some (vI _), some (vI _), some (vI _)]) hX (Nat.le_of_ble_eq_true rfl) rfl d_Bl_isSameMarked_1 ?_
  refine VW.cast (lo' := [some (vR 3), some (vI (i3 s)), some (vI (i3 t)), some (vI (i3 0))]) (st' := []) (G' := gM (M)) rfl rfl rfl ?_
  refine v_forI (X := X) (head := 2) (10) (fun kk => [some (vR 3), some (vI (i3 s)), some (vI (i3 t)), some (vI (i3 kk))]) (fun kk => M) (fun kk => allB (fun t2 => decide (blN J n s (i3 t2) = blN J n t (i3 t2))) kk = true) (rfl) (fun k hk hIk ih2 => ?_) (fun hIk => ?_)
  · show VW X 2 [some (vR 3), some (vI (i3 s)), some (vI (i3 t)), some (vI (i3 k))] [] (gM (M))
    have hIk : allB (fun t2 => decide (blN J n s (i3 t2) = blN J n t (i3 t2))) k = true := hIk
    refine v_iload_n (pc := 2) hX rfl d_Bl_isSameMarked_2 ?_
    refine v_bipush (pc := 3) (v := 10) hX (by decide) d_Bl_isSameMarked_3 ?_
    refine v_icmp_ge (pc := 5) (tgt := 31) hX d_Bl_isSameMarked_5 rfl (fun h5 => False.elim (i3_ge_abs hk (by decide) h5)) (fun h5 => ?_)
    refine v_aload_n (pc := 8) hX rfl d_Bl_isSameMarked_8 ?_
    refine v_iload_n (pc := 9) hX rfl d_Bl_isSameMarked_9 ?_
    refine v_iload_n (pc := 10) hX rfl d_Bl_isSameMarked_10 ?_
    refine f_callV (pc := 11) hX k_Sp_markOf ki_Sp_markOf kv_Sp_markOf ml_Bl_9 (C_Sp_markOf hJ (by assumption)) rfl rfl rfl rfl rfl (Nat.le_of_ble_eq_true rfl) (Nat.le_of_ble_eq_true rfl) (Nat.le_of_ble_eq_true rfl) d_Bl_isSameMarked_11 ?_
    refine v_aload_n (pc := 14) hX rfl d_Bl_isSameMarked_14 ?_
    refine v_iload_n (pc := 15) hX rfl d_Bl_isSameMarked_15 ?_
    refine v_iload_n (pc := 16) hX rfl d_Bl_isSameMarked_16 ?_
    refine f_callV (pc := 17) hX k_Sp_markOf ki_Sp_markOf kv_Sp_markOf ml_Bl_9 (C_Sp_markOf hJ (by assumption)) rfl rfl rfl rfl rfl (Nat.le_of_ble_eq_true rfl) (Nat.le_of_ble_eq_true rfl) (Nat.le_of_ble_eq_true rfl) d_Bl_isSameMarked_17 ?_
    refine v_icmp_eq (pc := 20) (tgt := 25) hX d_Bl_isSameMarked_20 rfl (fun h20 => ?_) (fun h20 => ?_)
    · refine v_iinc (pc := 25) (lo' := [some (vR _), some (vI _), some (vI _), some (vI _)]) hX rfl rfl d_Bl_isSameMarked_25 ?_
      refine v_goto (pc := 28) (tgt := 2) hX d_Bl_isSameMarked_28 rfl ?_
      exact VW.cast (by rw [i3_succ]; rfl) rfl rfl (ih2 (allB_s hIk (decide_eq_true h20)))
    · refine v_iconst (pc := 23) (v := 0) hX (by decide) d_Bl_isSameMarked_23 ?_
      exact f_zret (pc := 24) hX hR (bF (allB_no hk (decide_eq_false h20))) (rfl) d_Bl_isSameMarked_24
  · show VW X 2 [some (vR 3), some (vI (i3 s)), some (vI (i3 t)), some (vI (i3 (10)))] [] (gM (M))
    have hIk : allB (fun t2 => decide (blN J n s (i3 t2) = blN J n t (i3 t2))) (10) = true := hIk
    refine v_iload_n (pc := 2) hX rfl d_Bl_isSameMarked_2 ?_
    refine v_bipush (pc := 3) (v := 10) hX (by decide) d_Bl_isSameMarked_3 ?_
    refine v_icmp_ge (pc := 5) (tgt := 31) hX d_Bl_isSameMarked_5 rfl (fun h5 => ?_) (fun h5 => False.elim (by revert h5; decide))
    refine v_iconst (pc := 31) (v := 1) hX (by decide) d_Bl_isSameMarked_31 ?_
    exact f_zret (pc := 32) hX hR (bT hIk) (rfl) d_Bl_isSameMarked_32
theorem d_Bl_alike_0 : decode c_Bl_alike 0 = .ok (.bipush (-9), 2) := by decide +kernel
theorem d_Bl_alike_2 : decode c_Bl_alike 2 = .ok (.istore_n 2, 1) := by decide +kernel
theorem d_Bl_alike_3 : decode c_Bl_alike 3 = .ok (.iconst 1, 1) := by decide +kernel
theorem d_Bl_alike_4 : decode c_Bl_alike 4 = .ok (.istore_n 3, 1) := by decide +kernel
theorem d_Bl_alike_5 : decode c_Bl_alike 5 = .ok (.iload_n 3, 1) := by decide +kernel
theorem d_Bl_alike_6 : decode c_Bl_alike 6 = .ok (.aload_n 0, 1) := by decide +kernel
theorem d_Bl_alike_7 : decode c_Bl_alike 7 = .ok (.invokevirtual 24, 3) := by decide +kernel
theorem d_Bl_alike_10 : decode c_Bl_alike 10 = .ok (.if_icmp .ge 59, 3) := by decide +kernel
theorem d_Bl_alike_13 : decode c_Bl_alike 13 = .ok (.iload_n 2, 1) := by decide +kernel
theorem d_Bl_alike_14 : decode c_Bl_alike 14 = .ok (.bipush (-9), 2) := by decide +kernel
theorem d_Bl_alike_16 : decode c_Bl_alike 16 = .ok (.if_icmp .eq 14, 3) := by decide +kernel
theorem d_Bl_alike_19 : decode c_Bl_alike 19 = .ok (.iload_n 3, 1) := by decide +kernel
theorem d_Bl_alike_20 : decode c_Bl_alike 20 = .ok (.invokestatic 43, 3) := by decide +kernel
theorem d_Bl_alike_23 : decode c_Bl_alike 23 = .ok (.iload_n 2, 1) := by decide +kernel
theorem d_Bl_alike_24 : decode c_Bl_alike 24 = .ok (.invokestatic 43, 3) := by decide +kernel
theorem d_Bl_alike_27 : decode c_Bl_alike 27 = .ok (.if_icmp .ge 7, 3) := by decide +kernel
theorem d_Bl_alike_30 : decode c_Bl_alike 30 = .ok (.iconst 1, 1) := by decide +kernel
theorem d_Bl_alike_31 : decode c_Bl_alike 31 = .ok (.goto 4, 3) := by decide +kernel
theorem d_Bl_alike_34 : decode c_Bl_alike 34 = .ok (.iconst 0, 1) := by decide +kernel
theorem d_Bl_alike_35 : decode c_Bl_alike 35 = .ok (.istore 4, 2) := by decide +kernel
theorem d_Bl_alike_37 : decode c_Bl_alike 37 = .ok (.iload 4, 2) := by decide +kernel
theorem d_Bl_alike_39 : decode c_Bl_alike 39 = .ok (.ifCond .eq 24, 3) := by decide +kernel
theorem d_Bl_alike_42 : decode c_Bl_alike 42 = .ok (.iload_n 3, 1) := by decide +kernel
theorem d_Bl_alike_43 : decode c_Bl_alike 43 = .ok (.iload_n 1, 1) := by decide +kernel
theorem d_Bl_alike_44 : decode c_Bl_alike 44 = .ok (.ishr, 1) := by decide +kernel
theorem d_Bl_alike_45 : decode c_Bl_alike 45 = .ok (.iconst 1, 1) := by decide +kernel
theorem d_Bl_alike_46 : decode c_Bl_alike 46 = .ok (.iand, 1) := by decide +kernel
theorem d_Bl_alike_47 : decode c_Bl_alike 47 = .ok (.ifCond .ne 16, 3) := by decide +kernel
theorem d_Bl_alike_50 : decode c_Bl_alike 50 = .ok (.aload_n 0, 1) := by decide +kernel
theorem d_Bl_alike_51 : decode c_Bl_alike 51 = .ok (.iload_n 3, 1) := by decide +kernel
theorem d_Bl_alike_52 : decode c_Bl_alike 52 = .ok (.iconst 1, 1) := by decide +kernel
theorem d_Bl_alike_53 : decode c_Bl_alike 53 = .ok (.iload_n 1, 1) := by decide +kernel
theorem d_Bl_alike_54 : decode c_Bl_alike 54 = .ok (.ishl, 1) := by decide +kernel
theorem d_Bl_alike_55 : decode c_Bl_alike 55 = .ok (.invokestatic 54, 3) := by decide +kernel
theorem d_Bl_alike_58 : decode c_Bl_alike 58 = .ok (.ifCond .eq 5, 3) := by decide +kernel
theorem d_Bl_alike_61 : decode c_Bl_alike 61 = .ok (.iload_n 3, 1) := by decide +kernel
theorem d_Bl_alike_62 : decode c_Bl_alike 62 = .ok (.istore_n 2, 1) := by decide +kernel
theorem d_Bl_alike_63 : decode c_Bl_alike 63 = .ok (.iinc 3 1, 3) := by decide +kernel
theorem d_Bl_alike_66 : decode c_Bl_alike 66 = .ok (.goto (-61), 3) := by decide +kernel
theorem d_Bl_alike_69 : decode c_Bl_alike 69 = .ok (.iload_n 2, 1) := by decide +kernel
theorem d_Bl_alike_70 : decode c_Bl_alike 70 = .ok (.ireturn, 1) := by decide +kernel
set_option maxHeartbeats 4000000 in
theorem C_Bl_alike {M : MM} {n j : Nat} {J : JT} (hJ : CJ M n J) (hj : j < n) : AF y_Bl_alike c_Bl_alike 5 (some .int) 6 [vR 3, vI (i3 j)] (M) (some (vI (en (al J n j (2 ^ n - 1))))) (M) := by
  have h6 := hJ.1
  have hM := hJ.2.1
  have hp := pow6 h6
  have h2j : 2 ^ j < 64 := Nat.lt_of_lt_of_le (Nat.pow_lt_pow_right (by decide) hj) hp
  refine AF.of k_Bl_alike (lo := [some (vR 3), some (vI (i3 j)), none, none, none]) rfl (Nat.le_of_ble_eq_true rfl) (fun X hX hR => ?_)
  refine v_bipush (pc := 0) (v := (-9)) hX (by decide) d_Bl_alike_0 ?_
  refine v_istore_n (pc := 2) (lo' := [some (vR _), some (vI _), some (vI _), none, none]) hX (Nat.le_of_ble_eq_true rfl) rfl d_Bl_alike_2 ?_
  refine v_iconst (pc := 3) (v := 1) hX (by decide) d_Bl_alike_3 ?_
  refine v_istore_n (pc := 4) (lo' := [some (vR _), some (vI _), some (vI _), some (vI _), none]) hX (Nat.le_of_ble_eq_true rfl) rfl d_Bl_alike_4 ?_
  refine VW.cast (lo' := [some (vR 3), some (vI (i3 j)), some (vI (en (al J n j 0))), some (vI (i3 (0 + 1))), none]) (st' := []) (G' := gM (M)) rfl rfl rfl ?_
  refine v_for (X := X) (head := 5) (2 ^ n - 1) (fun kk => [some (vR 3), some (vI (i3 j)), some (vI (en (al J n j kk))), some (vI (i3 (kk + 1))), none]) (fun kk => M) (fun k hk ih5 => ?_) ?_
  · show VW X 5 [some (vR 3), some (vI (i3 j)), some (vI (en (al J n j k))), some (vI (i3 (k + 1))), none] [] (gM (M))
    have hs : k + 1 < 64 := by omega
    have hcl := al_le J n j k
    have hc6 : al J n j k < 64 := by omega
    have hb := bt_i3 (k + 1) hs j (by omega)
    have hsh := shl_i3 j (by omega)
    refine v_iload_n (pc := 5) hX rfl d_Bl_alike_5 ?_
    refine v_aload_n (pc := 6) hX rfl d_Bl_alike_6 ?_
    refine f_callV (pc := 7) hX k_Sp_setsEnd ki_Sp_setsEnd kv_Sp_setsEnd ml_Bl_24 (C_Sp_setsEnd hJ) rfl rfl rfl rfl rfl (Nat.le_of_ble_eq_true rfl) (Nat.le_of_ble_eq_true rfl) (Nat.le_of_ble_eq_true rfl) d_Bl_alike_7 ?_
    refine v_icmp_ge (pc := 10) (tgt := 69) hX d_Bl_alike_10 rfl (fun h10 => False.elim (i3_ge_abs (k := k + 1) (n := 2 ^ n) (by omega) (by omega) h10)) (fun h10 => ?_)
    refine v_iload_n (pc := 13) hX rfl d_Bl_alike_13 ?_
    refine v_bipush (pc := 14) (v := (-9)) hX (by decide) d_Bl_alike_14 ?_
    refine v_icmp_eq (pc := 16) (tgt := 30) hX d_Bl_alike_16 rfl (fun h16 => ?_) (fun h16 => ?_)
    · have a1 := (en_none hc6).mp h16
      have a2 := a1
      refine v_iconst (pc := 30) (v := 1) hX (by decide) d_Bl_alike_30 ?_
      refine v_goto (pc := 31) (tgt := 35) hX d_Bl_alike_31 rfl ?_
      refine v_istore (pc := 35) (lo' := [some (vR _), some (vI _), some (vI _), some (vI _), some (vI _)]) hX (Nat.le_of_ble_eq_true rfl) rfl d_Bl_alike_35 ?_
      refine v_iload (pc := 37) hX rfl d_Bl_alike_37 ?_
      refine v_if_eq (pc := 39) (tgt := 63) hX d_Bl_alike_39 rfl (fun h39 => False.elim (by revert h39; decide)) (fun h39 => ?_)
      refine v_iload_n (pc := 42) hX rfl d_Bl_alike_42 ?_
      refine v_iload_n (pc := 43) hX rfl d_Bl_alike_43 ?_
      refine v_ishr (pc := 44) hX d_Bl_alike_44 ?_
      refine v_iconst (pc := 45) (v := 1) hX (by decide) d_Bl_alike_45 ?_
      refine v_iand (pc := 46) hX d_Bl_alike_46 ?_
      refine v_if_ne (pc := 47) (tgt := 63) hX d_Bl_alike_47 rfl (fun h47 => ?_) (fun h47 => ?_)
      · have a3 : ¬ bt (k + 1) j = 0 := fun q => by rw [hb, q] at h47; exact h47 rfl
        have e : al J n j (k + 1) = al J n j k := if_neg (by simp [alC, a3])
        refine v_iinc (pc := 63) (lo' := [some (vR _), some (vI _), some (vI _), some (vI _), some (vI _)]) hX rfl rfl d_Bl_alike_63 ?_
        refine v_goto (pc := 66) (tgt := 5) hX d_Bl_alike_66 rfl ?_
        refine VW.fg [true, true, true, true, false] ?_
        exact VW.cast (by first | (rw [e, en_p (Nat.succ_ne_zero k), i3_succ (k + 1)]; rfl) | (rw [e, i3_succ (k + 1)]; rfl) | (rw [e, i3_succ (k + 1), en_p a1]; rfl)) rfl rfl ih5
      · have a3 : bt (k + 1) j = 0 := by
          rcases bt_01 (k + 1) j with h | h
          · exact h
          · rw [hb, h] at h47; exact absurd h47 (by decide)
        refine v_aload_n (pc := 50) hX rfl d_Bl_alike_50 ?_
        refine v_iload_n (pc := 51) hX rfl d_Bl_alike_51 ?_
        refine v_iconst (pc := 52) (v := 1) hX (by decide) d_Bl_alike_52 ?_
        refine v_iload_n (pc := 53) hX rfl d_Bl_alike_53 ?_
        refine v_ishl (pc := 54) hX d_Bl_alike_54 ?_
        rw [hsh]
        refine f_callS (pc := 55) hX k_Bl_isSameMarked ks_Bl_isSameMarked ml_Bl_54 (C_Bl_isSameMarked (t := 2 ^ j) hJ hs h2j) rfl rfl rfl (Nat.le_of_ble_eq_true rfl) (Nat.le_of_ble_eq_true rfl) (Nat.le_of_ble_eq_true rfl) d_Bl_alike_55 ?_
        refine f_ifeqB (pc := 58) (tgt := 63) hX d_Bl_alike_58 rfl (fun h58 => ?_) (fun h58 => ?_)
        · have e : al J n j (k + 1) = al J n j k := if_neg (by simp [alC, h58])
          refine v_iinc (pc := 63) (lo' := [some (vR _), some (vI _), some (vI _), some (vI _), some (vI _)]) hX rfl rfl d_Bl_alike_63 ?_
          refine v_goto (pc := 66) (tgt := 5) hX d_Bl_alike_66 rfl ?_
          refine VW.fg [true, true, true, true, false] ?_
          exact VW.cast (by first | (rw [e, en_p (Nat.succ_ne_zero k), i3_succ (k + 1)]; rfl) | (rw [e, i3_succ (k + 1)]; rfl) | (rw [e, i3_succ (k + 1), en_p a1]; rfl)) rfl rfl ih5
        · have e : al J n j (k + 1) = k + 1 := if_pos (by simp [alC, a1, a2, a3, h58])
          refine v_iload_n (pc := 61) hX rfl d_Bl_alike_61 ?_
          refine v_istore_n (pc := 62) (lo' := [some (vR _), some (vI _), some (vI _), some (vI _), some (vI _)]) hX (Nat.le_of_ble_eq_true rfl) rfl d_Bl_alike_62 ?_
          refine v_iinc (pc := 63) (lo' := [some (vR _), some (vI _), some (vI _), some (vI _), some (vI _)]) hX rfl rfl d_Bl_alike_63 ?_
          refine v_goto (pc := 66) (tgt := 5) hX d_Bl_alike_66 rfl ?_
          refine VW.fg [true, true, true, true, false] ?_
          exact VW.cast (by first | (rw [e, en_p (Nat.succ_ne_zero k), i3_succ (k + 1)]; rfl) | (rw [e, i3_succ (k + 1)]; rfl) | (rw [e, i3_succ (k + 1), en_p a1]; rfl)) rfl rfl ih5
    · have a1 : ¬ al J n j k = 0 := fun q => h16 ((en_none hc6).mpr q)
      rw [en_p a1]
      refine v_iload_n (pc := 19) hX rfl d_Bl_alike_19 ?_
      refine f_callS (pc := 20) hX k_jI_bitCount ks_jI_bitCount ml_Bl_43 (C_jI_bitCount) rfl rfl rfl (Nat.le_of_ble_eq_true rfl) (Nat.le_of_ble_eq_true rfl) (Nat.le_of_ble_eq_true rfl) d_Bl_alike_20 ?_
      refine v_iload_n (pc := 23) hX rfl d_Bl_alike_23 ?_
      refine f_callS (pc := 24) hX k_jI_bitCount ks_jI_bitCount ml_Bl_43 (C_jI_bitCount) rfl rfl rfl (Nat.le_of_ble_eq_true rfl) (Nat.le_of_ble_eq_true rfl) (Nat.le_of_ble_eq_true rfl) d_Bl_alike_24 ?_
      refine v_icmp_ge (pc := 27) (tgt := 34) hX d_Bl_alike_27 rfl (fun h27 => ?_) (fun h27 => ?_)
      · rw [jbc_pop _ hs, jbc_pop _ hc6] at h27
        rw [← en_p a1]
        have a2 : ¬ pop 6 (k + 1) < pop 6 (al J n j k) := by
          have := (i3_le (by have := pop_lt hc6; omega) (by have := pop_lt hs; omega)).mp h27
          omega
        have e : al J n j (k + 1) = al J n j k := if_neg (by simp [alC, a1, a2])
        refine v_iconst (pc := 34) (v := 0) hX (by decide) d_Bl_alike_34 ?_
        refine v_istore (pc := 35) (lo' := [some (vR _), some (vI _), some (vI _), some (vI _), some (vI _)]) hX (Nat.le_of_ble_eq_true rfl) rfl d_Bl_alike_35 ?_
        refine v_iload (pc := 37) hX rfl d_Bl_alike_37 ?_
        refine v_if_eq (pc := 39) (tgt := 63) hX d_Bl_alike_39 rfl (fun h39 => ?_) (fun h39 => False.elim (by revert h39; decide))
        refine v_iinc (pc := 63) (lo' := [some (vR _), some (vI _), some (vI _), some (vI _), some (vI _)]) hX rfl rfl d_Bl_alike_63 ?_
        refine v_goto (pc := 66) (tgt := 5) hX d_Bl_alike_66 rfl ?_
        refine VW.fg [true, true, true, true, false] ?_
        exact VW.cast (by first | (rw [e, en_p (Nat.succ_ne_zero k), i3_succ (k + 1)]; rfl) | (rw [e, i3_succ (k + 1)]; rfl) | (rw [e, i3_succ (k + 1), en_p a1]; rfl)) rfl rfl ih5
      · rw [jbc_pop _ hs, jbc_pop _ hc6] at h27
        rw [← en_p a1]
        have a2 : pop 6 (k + 1) < pop 6 (al J n j k) := by
          exact Nat.lt_of_not_le (fun q => h27 ((i3_le (by have := pop_lt hc6; omega) (by have := pop_lt hs; omega)).mpr q))
        refine v_iconst (pc := 30) (v := 1) hX (by decide) d_Bl_alike_30 ?_
        refine v_goto (pc := 31) (tgt := 35) hX d_Bl_alike_31 rfl ?_
        refine v_istore (pc := 35) (lo' := [some (vR _), some (vI _), some (vI _), some (vI _), some (vI _)]) hX (Nat.le_of_ble_eq_true rfl) rfl d_Bl_alike_35 ?_
        refine v_iload (pc := 37) hX rfl d_Bl_alike_37 ?_
        refine v_if_eq (pc := 39) (tgt := 63) hX d_Bl_alike_39 rfl (fun h39 => False.elim (by revert h39; decide)) (fun h39 => ?_)
        refine v_iload_n (pc := 42) hX rfl d_Bl_alike_42 ?_
        refine v_iload_n (pc := 43) hX rfl d_Bl_alike_43 ?_
        refine v_ishr (pc := 44) hX d_Bl_alike_44 ?_
        refine v_iconst (pc := 45) (v := 1) hX (by decide) d_Bl_alike_45 ?_
        refine v_iand (pc := 46) hX d_Bl_alike_46 ?_
        refine v_if_ne (pc := 47) (tgt := 63) hX d_Bl_alike_47 rfl (fun h47 => ?_) (fun h47 => ?_)
        · have a3 : ¬ bt (k + 1) j = 0 := fun q => by rw [hb, q] at h47; exact h47 rfl
          have e : al J n j (k + 1) = al J n j k := if_neg (by simp [alC, a3])
          refine v_iinc (pc := 63) (lo' := [some (vR _), some (vI _), some (vI _), some (vI _), some (vI _)]) hX rfl rfl d_Bl_alike_63 ?_
          refine v_goto (pc := 66) (tgt := 5) hX d_Bl_alike_66 rfl ?_
          refine VW.fg [true, true, true, true, false] ?_
          exact VW.cast (by first | (rw [e, en_p (Nat.succ_ne_zero k), i3_succ (k + 1)]; rfl) | (rw [e, i3_succ (k + 1)]; rfl) | (rw [e, i3_succ (k + 1), en_p a1]; rfl)) rfl rfl ih5
        · have a3 : bt (k + 1) j = 0 := by
            rcases bt_01 (k + 1) j with h | h
            · exact h
            · rw [hb, h] at h47; exact absurd h47 (by decide)
          refine v_aload_n (pc := 50) hX rfl d_Bl_alike_50 ?_
          refine v_iload_n (pc := 51) hX rfl d_Bl_alike_51 ?_
          refine v_iconst (pc := 52) (v := 1) hX (by decide) d_Bl_alike_52 ?_
          refine v_iload_n (pc := 53) hX rfl d_Bl_alike_53 ?_
          refine v_ishl (pc := 54) hX d_Bl_alike_54 ?_
          rw [hsh]
          refine f_callS (pc := 55) hX k_Bl_isSameMarked ks_Bl_isSameMarked ml_Bl_54 (C_Bl_isSameMarked (t := 2 ^ j) hJ hs h2j) rfl rfl rfl (Nat.le_of_ble_eq_true rfl) (Nat.le_of_ble_eq_true rfl) (Nat.le_of_ble_eq_true rfl) d_Bl_alike_55 ?_
          refine f_ifeqB (pc := 58) (tgt := 63) hX d_Bl_alike_58 rfl (fun h58 => ?_) (fun h58 => ?_)
          · have e : al J n j (k + 1) = al J n j k := if_neg (by simp [alC, h58])
            refine v_iinc (pc := 63) (lo' := [some (vR _), some (vI _), some (vI _), some (vI _), some (vI _)]) hX rfl rfl d_Bl_alike_63 ?_
            refine v_goto (pc := 66) (tgt := 5) hX d_Bl_alike_66 rfl ?_
            refine VW.fg [true, true, true, true, false] ?_
            exact VW.cast (by first | (rw [e, en_p (Nat.succ_ne_zero k), i3_succ (k + 1)]; rfl) | (rw [e, i3_succ (k + 1)]; rfl) | (rw [e, i3_succ (k + 1), en_p a1]; rfl)) rfl rfl ih5
          · have e : al J n j (k + 1) = k + 1 := if_pos (by simp [alC, a1, a2, a3, h58])
            refine v_iload_n (pc := 61) hX rfl d_Bl_alike_61 ?_
            refine v_istore_n (pc := 62) (lo' := [some (vR _), some (vI _), some (vI _), some (vI _), some (vI _)]) hX (Nat.le_of_ble_eq_true rfl) rfl d_Bl_alike_62 ?_
            refine v_iinc (pc := 63) (lo' := [some (vR _), some (vI _), some (vI _), some (vI _), some (vI _)]) hX rfl rfl d_Bl_alike_63 ?_
            refine v_goto (pc := 66) (tgt := 5) hX d_Bl_alike_66 rfl ?_
            refine VW.fg [true, true, true, true, false] ?_
            exact VW.cast (by first | (rw [e, en_p (Nat.succ_ne_zero k), i3_succ (k + 1)]; rfl) | (rw [e, i3_succ (k + 1)]; rfl) | (rw [e, i3_succ (k + 1), en_p a1]; rfl)) rfl rfl ih5
  · show VW X 5 [some (vR 3), some (vI (i3 j)), some (vI (en (al J n j (2 ^ n - 1)))), some (vI (i3 ((2 ^ n - 1) + 1))), none] [] (gM (M))
    refine v_iload_n (pc := 5) hX rfl d_Bl_alike_5 ?_
    refine v_aload_n (pc := 6) hX rfl d_Bl_alike_6 ?_
    refine f_callV (pc := 7) hX k_Sp_setsEnd ki_Sp_setsEnd kv_Sp_setsEnd ml_Bl_24 (C_Sp_setsEnd hJ) rfl rfl rfl rfl rfl (Nat.le_of_ble_eq_true rfl) (Nat.le_of_ble_eq_true rfl) (Nat.le_of_ble_eq_true rfl) d_Bl_alike_7 ?_
    refine v_icmp_ge (pc := 10) (tgt := 69) hX d_Bl_alike_10 rfl (fun h10 => ?_) (fun h10 => False.elim (absurd set_end h10))
    refine v_iload_n (pc := 69) hX rfl d_Bl_alike_69 ?_
    exact f_iret (pc := 70) hX hR (rfl) (rfl) d_Bl_alike_70
theorem hms_i3 : ∀ s, s < 64 → ((1 : Int32) <<< (jbc (i3 s) &&& 31)) - 1 = i3 (2 ^ pop 6 s - 1) := by decide +kernel
theorem d_Bl_howManyStocked_0 : decode c_Bl_howManyStocked 0 = .ok (.iconst 1, 1) := by decide +kernel
theorem d_Bl_howManyStocked_1 : decode c_Bl_howManyStocked 1 = .ok (.aload_n 0, 1) := by decide +kernel
theorem d_Bl_howManyStocked_2 : decode c_Bl_howManyStocked 2 = .ok (.invokevirtual 20, 3) := by decide +kernel
theorem d_Bl_howManyStocked_5 : decode c_Bl_howManyStocked 5 = .ok (.invokestatic 43, 3) := by decide +kernel
theorem d_Bl_howManyStocked_8 : decode c_Bl_howManyStocked 8 = .ok (.ishl, 1) := by decide +kernel
theorem d_Bl_howManyStocked_9 : decode c_Bl_howManyStocked 9 = .ok (.iconst 1, 1) := by decide +kernel
theorem d_Bl_howManyStocked_10 : decode c_Bl_howManyStocked 10 = .ok (.isub, 1) := by decide +kernel
theorem d_Bl_howManyStocked_11 : decode c_Bl_howManyStocked 11 = .ok (.ireturn, 1) := by decide +kernel
theorem C_Bl_howManyStocked {M : MM} {n : Nat} {J : JT} (hJ : CJ M n J) : AF y_Bl_howManyStocked c_Bl_howManyStocked 1 (some .int) 2 [vR 3] (M) (some (vI (i3 (2 ^ pop 6 (stN J n) - 1)))) (M) := by
  refine AF.of k_Bl_howManyStocked (lo := [some (vR 3)]) rfl (Nat.le_of_ble_eq_true rfl) (fun X hX hR => ?_)
  refine v_iconst (pc := 0) (v := 1) hX (by decide) d_Bl_howManyStocked_0 ?_
  refine v_aload_n (pc := 1) hX rfl d_Bl_howManyStocked_1 ?_
  refine f_callV (pc := 2) hX k_Sp_stocked ki_Sp_stocked kv_Sp_stocked ml_Bl_20 (C_Sp_stocked hJ) rfl rfl rfl rfl rfl (Nat.le_of_ble_eq_true rfl) (Nat.le_of_ble_eq_true rfl) (Nat.le_of_ble_eq_true rfl) d_Bl_howManyStocked_2 ?_
  refine f_callS (pc := 5) hX k_jI_bitCount ks_jI_bitCount ml_Bl_43 (C_jI_bitCount) rfl rfl rfl (Nat.le_of_ble_eq_true rfl) (Nat.le_of_ble_eq_true rfl) (Nat.le_of_ble_eq_true rfl) d_Bl_howManyStocked_5 ?_
  refine v_ishl (pc := 8) hX d_Bl_howManyStocked_8 ?_
  refine v_iconst (pc := 9) (v := 1) hX (by decide) d_Bl_howManyStocked_9 ?_
  refine v_isub (pc := 10) hX d_Bl_howManyStocked_10 ?_
  exact f_iret (pc := 11) hX hR (hms_i3 _ (Nat.lt_of_lt_of_le (stN_lt J n) (pow6 hJ.1))) (rfl) d_Bl_howManyStocked_11
theorem d_Bl_howManyDeciding_0 : decode c_Bl_howManyDeciding 0 = .ok (.aload_n 0, 1) := by decide +kernel
theorem d_Bl_howManyDeciding_1 : decode c_Bl_howManyDeciding 1 = .ok (.invokevirtual 20, 3) := by decide +kernel
theorem d_Bl_howManyDeciding_4 : decode c_Bl_howManyDeciding 4 = .ok (.istore_n 2, 1) := by decide +kernel
theorem d_Bl_howManyDeciding_5 : decode c_Bl_howManyDeciding 5 = .ok (.iconst 0, 1) := by decide +kernel
theorem d_Bl_howManyDeciding_6 : decode c_Bl_howManyDeciding 6 = .ok (.istore_n 3, 1) := by decide +kernel
theorem d_Bl_howManyDeciding_7 : decode c_Bl_howManyDeciding 7 = .ok (.iconst 1, 1) := by decide +kernel
theorem d_Bl_howManyDeciding_8 : decode c_Bl_howManyDeciding 8 = .ok (.istore 4, 2) := by decide +kernel
theorem d_Bl_howManyDeciding_10 : decode c_Bl_howManyDeciding 10 = .ok (.iload 4, 2) := by decide +kernel
theorem d_Bl_howManyDeciding_12 : decode c_Bl_howManyDeciding 12 = .ok (.aload_n 0, 1) := by decide +kernel
theorem d_Bl_howManyDeciding_13 : decode c_Bl_howManyDeciding 13 = .ok (.invokevirtual 24, 3) := by decide +kernel
theorem d_Bl_howManyDeciding_16 : decode c_Bl_howManyDeciding 16 = .ok (.if_icmp .ge 36, 3) := by decide +kernel
theorem d_Bl_howManyDeciding_19 : decode c_Bl_howManyDeciding 19 = .ok (.iload_n 3, 1) := by decide +kernel
theorem d_Bl_howManyDeciding_20 : decode c_Bl_howManyDeciding 20 = .ok (.iload 4, 2) := by decide +kernel
theorem d_Bl_howManyDeciding_22 : decode c_Bl_howManyDeciding 22 = .ok (.iload_n 2, 1) := by decide +kernel
theorem d_Bl_howManyDeciding_23 : decode c_Bl_howManyDeciding 23 = .ok (.iconst (-1), 1) := by decide +kernel
theorem d_Bl_howManyDeciding_24 : decode c_Bl_howManyDeciding 24 = .ok (.ixor, 1) := by decide +kernel
theorem d_Bl_howManyDeciding_25 : decode c_Bl_howManyDeciding 25 = .ok (.iand, 1) := by decide +kernel
theorem d_Bl_howManyDeciding_26 : decode c_Bl_howManyDeciding 26 = .ok (.ifCond .ne 17, 3) := by decide +kernel
theorem d_Bl_howManyDeciding_29 : decode c_Bl_howManyDeciding 29 = .ok (.aload_n 0, 1) := by decide +kernel
theorem d_Bl_howManyDeciding_30 : decode c_Bl_howManyDeciding 30 = .ok (.aload_n 1, 1) := by decide +kernel
theorem d_Bl_howManyDeciding_31 : decode c_Bl_howManyDeciding 31 = .ok (.iload 4, 2) := by decide +kernel
theorem d_Bl_howManyDeciding_33 : decode c_Bl_howManyDeciding 33 = .ok (.invokestatic 37, 3) := by decide +kernel
theorem d_Bl_howManyDeciding_36 : decode c_Bl_howManyDeciding 36 = .ok (.ifCond .eq 7, 3) := by decide +kernel
theorem d_Bl_howManyDeciding_39 : decode c_Bl_howManyDeciding 39 = .ok (.iconst 1, 1) := by decide +kernel
theorem d_Bl_howManyDeciding_40 : decode c_Bl_howManyDeciding 40 = .ok (.goto 4, 3) := by decide +kernel
theorem d_Bl_howManyDeciding_43 : decode c_Bl_howManyDeciding 43 = .ok (.iconst 0, 1) := by decide +kernel
theorem d_Bl_howManyDeciding_44 : decode c_Bl_howManyDeciding 44 = .ok (.iadd, 1) := by decide +kernel
theorem d_Bl_howManyDeciding_45 : decode c_Bl_howManyDeciding 45 = .ok (.istore_n 3, 1) := by decide +kernel
theorem d_Bl_howManyDeciding_46 : decode c_Bl_howManyDeciding 46 = .ok (.iinc 4 1, 3) := by decide +kernel
theorem d_Bl_howManyDeciding_49 : decode c_Bl_howManyDeciding 49 = .ok (.goto (-39), 3) := by decide +kernel
theorem d_Bl_howManyDeciding_52 : decode c_Bl_howManyDeciding 52 = .ok (.iload_n 3, 1) := by decide +kernel
theorem d_Bl_howManyDeciding_53 : decode c_Bl_howManyDeciding 53 = .ok (.ireturn, 1) := by decide +kernel
theorem C_Bl_howManyDeciding {M : MM} {n d : Nat} {J : JT} (hJ : CJ M n J) (hd : SH[d]? = some (0, 0)) : AF y_Bl_howManyDeciding c_Bl_howManyDeciding 5 (some .int) 6 [vR 3, vR d] (M) (some (vI (i3 (cntB (fun s => sb s (stN J n) && dcB J (M d 0) (M d 1) n s) (2 ^ n - 1))))) (M) := by
  have h6 := hJ.1
  have hM := hJ.2.1
  have hp := pow6 h6
  have hst : stN J n < 64 := Nat.lt_of_lt_of_le (stN_lt J n) hp
  refine AF.of k_Bl_howManyDeciding (lo := [some (vR 3), some (vR d), none, none, none]) rfl (Nat.le_of_ble_eq_true rfl) (fun X hX hR => ?_)
  refine v_aload_n (pc := 0) hX rfl d_Bl_howManyDeciding_0 ?_
  refine f_callV (pc := 1) hX k_Sp_stocked ki_Sp_stocked kv_Sp_stocked ml_Bl_20 (C_Sp_stocked hJ) rfl rfl rfl rfl rfl (Nat.le_of_ble_eq_true rfl) (Nat.le_of_ble_eq_true rfl) (Nat.le_of_ble_eq_true rfl) d_Bl_howManyDeciding_1 ?_
  refine v_istore_n (pc := 4) (lo' := [some (vR _), some (vR _), some (vI _), none, none]) hX (Nat.le_of_ble_eq_true rfl) rfl d_Bl_howManyDeciding_4 ?_
  refine v_iconst (pc := 5) (v := 0) hX (by decide) d_Bl_howManyDeciding_5 ?_
  refine v_istore_n (pc := 6) (lo' := [some (vR _), some (vR _), some (vI _), some (vI _), none]) hX (Nat.le_of_ble_eq_true rfl) rfl d_Bl_howManyDeciding_6 ?_
  refine v_iconst (pc := 7) (v := 1) hX (by decide) d_Bl_howManyDeciding_7 ?_
  refine v_istore (pc := 8) (lo' := [some (vR _), some (vR _), some (vI _), some (vI _), some (vI _)]) hX (Nat.le_of_ble_eq_true rfl) rfl d_Bl_howManyDeciding_8 ?_
  refine VW.cast (lo' := [some (vR 3), some (vR d), some (vI (i3 (stN J n))), some (vI (i3 (cntB (fun s => sb s (stN J n) && dcB J (M d 0) (M d 1) n s) 0))), some (vI (i3 (0 + 1)))]) (st' := []) (G' := gM (M)) rfl rfl rfl ?_
  refine v_for (X := X) (head := 10) (2 ^ n - 1) (fun kk => [some (vR 3), some (vR d), some (vI (i3 (stN J n))), some (vI (i3 (cntB (fun s => sb s (stN J n) && dcB J (M d 0) (M d 1) n s) kk))), some (vI (i3 (kk + 1)))]) (fun kk => M) (fun k hk ih10 => ?_) ?_
  · show VW X 10 [some (vR 3), some (vR d), some (vI (i3 (stN J n))), some (vI (i3 (cntB (fun s => sb s (stN J n) && dcB J (M d 0) (M d 1) n s) k))), some (vI (i3 (k + 1)))] [] (gM (M))
    have hs : k + 1 < 64 := by omega
    refine v_iload (pc := 10) hX rfl d_Bl_howManyDeciding_10 ?_
    refine v_aload_n (pc := 12) hX rfl d_Bl_howManyDeciding_12 ?_
    refine f_callV (pc := 13) hX k_Sp_setsEnd ki_Sp_setsEnd kv_Sp_setsEnd ml_Bl_24 (C_Sp_setsEnd hJ) rfl rfl rfl rfl rfl (Nat.le_of_ble_eq_true rfl) (Nat.le_of_ble_eq_true rfl) (Nat.le_of_ble_eq_true rfl) d_Bl_howManyDeciding_13 ?_
    refine v_icmp_ge (pc := 16) (tgt := 52) hX d_Bl_howManyDeciding_16 rfl (fun h16 => False.elim (i3_ge_abs (k := k + 1) (n := 2 ^ n) (by omega) (by omega) h16)) (fun h16 => ?_)
    refine v_iload_n (pc := 19) hX rfl d_Bl_howManyDeciding_19 ?_
    refine v_iload (pc := 20) hX rfl d_Bl_howManyDeciding_20 ?_
    refine v_iload_n (pc := 22) hX rfl d_Bl_howManyDeciding_22 ?_
    refine v_iconst (pc := 23) (v := (-1)) hX (by decide) d_Bl_howManyDeciding_23 ?_
    refine v_ixor (pc := 24) hX d_Bl_howManyDeciding_24 ?_
    refine v_iand (pc := 25) hX d_Bl_howManyDeciding_25 ?_
    refine v_if_ne (pc := 26) (tgt := 43) hX d_Bl_howManyDeciding_26 rfl (fun h26 => ?_) (fun h26 => ?_)
    · have a1 := sb_f hs hst h26
      have e : cntB (fun s => sb s (stN J n) && dcB J (M d 0) (M d 1) n s) (k + 1) = cntB (fun s => sb s (stN J n) && dcB J (M d 0) (M d 1) n s) k := by simp [cntB, a1]
      refine v_iconst (pc := 43) (v := 0) hX (by decide) d_Bl_howManyDeciding_43 ?_
      refine v_iadd (pc := 44) hX d_Bl_howManyDeciding_44 ?_
      refine v_istore_n (pc := 45) (lo' := [some (vR _), some (vR _), some (vI _), some (vI _), some (vI _)]) hX (Nat.le_of_ble_eq_true rfl) rfl d_Bl_howManyDeciding_45 ?_
      refine v_iinc (pc := 46) (lo' := [some (vR _), some (vR _), some (vI _), some (vI _), some (vI _)]) hX rfl rfl d_Bl_howManyDeciding_46 ?_
      refine v_goto (pc := 49) (tgt := 10) hX d_Bl_howManyDeciding_49 rfl ?_
      exact VW.cast (by first | (rw [e, i3_succ (k + 1), i3_succ]; rfl) | (rw [e, i3_succ (k + 1), Int32.add_zero]; rfl)) rfl rfl ih10
    · have a1 := sb_t hs hst h26
      refine v_aload_n (pc := 29) hX rfl d_Bl_howManyDeciding_29 ?_
      refine v_aload_n (pc := 30) hX rfl d_Bl_howManyDeciding_30 ?_
      refine v_iload (pc := 31) hX rfl d_Bl_howManyDeciding_31 ?_
      refine f_callS (pc := 33) hX k_Bl_decides ks_Bl_decides ml_Bl_37 (C_Bl_decides hJ (by assumption) (by assumption)) rfl rfl rfl (Nat.le_of_ble_eq_true rfl) (Nat.le_of_ble_eq_true rfl) (Nat.le_of_ble_eq_true rfl) d_Bl_howManyDeciding_33 ?_
      refine f_ifeqB (pc := 36) (tgt := 43) hX d_Bl_howManyDeciding_36 rfl (fun h36 => ?_) (fun h36 => ?_)
      · have e : cntB (fun s => sb s (stN J n) && dcB J (M d 0) (M d 1) n s) (k + 1) = cntB (fun s => sb s (stN J n) && dcB J (M d 0) (M d 1) n s) k := by simp [cntB, h36]
        refine v_iconst (pc := 43) (v := 0) hX (by decide) d_Bl_howManyDeciding_43 ?_
        refine v_iadd (pc := 44) hX d_Bl_howManyDeciding_44 ?_
        refine v_istore_n (pc := 45) (lo' := [some (vR _), some (vR _), some (vI _), some (vI _), some (vI _)]) hX (Nat.le_of_ble_eq_true rfl) rfl d_Bl_howManyDeciding_45 ?_
        refine v_iinc (pc := 46) (lo' := [some (vR _), some (vR _), some (vI _), some (vI _), some (vI _)]) hX rfl rfl d_Bl_howManyDeciding_46 ?_
        refine v_goto (pc := 49) (tgt := 10) hX d_Bl_howManyDeciding_49 rfl ?_
        exact VW.cast (by first | (rw [e, i3_succ (k + 1), i3_succ]; rfl) | (rw [e, i3_succ (k + 1), Int32.add_zero]; rfl)) rfl rfl ih10
      · have e : cntB (fun s => sb s (stN J n) && dcB J (M d 0) (M d 1) n s) (k + 1) = cntB (fun s => sb s (stN J n) && dcB J (M d 0) (M d 1) n s) k + 1 := by simp [cntB, a1, h36]
        refine v_iconst (pc := 39) (v := 1) hX (by decide) d_Bl_howManyDeciding_39 ?_
        refine v_goto (pc := 40) (tgt := 44) hX d_Bl_howManyDeciding_40 rfl ?_
        refine v_iadd (pc := 44) hX d_Bl_howManyDeciding_44 ?_
        refine v_istore_n (pc := 45) (lo' := [some (vR _), some (vR _), some (vI _), some (vI _), some (vI _)]) hX (Nat.le_of_ble_eq_true rfl) rfl d_Bl_howManyDeciding_45 ?_
        refine v_iinc (pc := 46) (lo' := [some (vR _), some (vR _), some (vI _), some (vI _), some (vI _)]) hX rfl rfl d_Bl_howManyDeciding_46 ?_
        refine v_goto (pc := 49) (tgt := 10) hX d_Bl_howManyDeciding_49 rfl ?_
        exact VW.cast (by first | (rw [e, i3_succ (k + 1), i3_succ]; rfl) | (rw [e, i3_succ (k + 1), Int32.add_zero]; rfl)) rfl rfl ih10
  · show VW X 10 [some (vR 3), some (vR d), some (vI (i3 (stN J n))), some (vI (i3 (cntB (fun s => sb s (stN J n) && dcB J (M d 0) (M d 1) n s) (2 ^ n - 1)))), some (vI (i3 ((2 ^ n - 1) + 1)))] [] (gM (M))
    refine v_iload (pc := 10) hX rfl d_Bl_howManyDeciding_10 ?_
    refine v_aload_n (pc := 12) hX rfl d_Bl_howManyDeciding_12 ?_
    refine f_callV (pc := 13) hX k_Sp_setsEnd ki_Sp_setsEnd kv_Sp_setsEnd ml_Bl_24 (C_Sp_setsEnd hJ) rfl rfl rfl rfl rfl (Nat.le_of_ble_eq_true rfl) (Nat.le_of_ble_eq_true rfl) (Nat.le_of_ble_eq_true rfl) d_Bl_howManyDeciding_13 ?_
    refine v_icmp_ge (pc := 16) (tgt := 52) hX d_Bl_howManyDeciding_16 rfl (fun h16 => ?_) (fun h16 => False.elim (absurd set_end h16))
    refine v_iload_n (pc := 52) hX rfl d_Bl_howManyDeciding_52 ?_
    exact f_iret (pc := 53) hX hR (rfl) (rfl) d_Bl_howManyDeciding_53
theorem gd_hit {u l d : Nat} (h : 1 < d) (h1 : u % d = 0) (h2 : l % d = 0) : gdv u l d = d := by
  match d, h with
  | d + 1, h => unfold gdv; rw [if_neg (by omega), if_pos ⟨h1, h2⟩]
theorem gd_s {u l k : Nat} (h : 1 < l - k) (hk : k < l) (h1 : ¬ u % (l - k) = 0) (hI : gdv u l l = gdv u l (l - k)) : gdv u l l = gdv u l (l - (k + 1)) := by
  rw [hI]
  generalize hd : l - (k + 1) = d
  rw [show l - k = d + 1 by omega] at h1 ⊢
  conv => lhs; unfold gdv
  rw [if_neg (by omega), if_neg (fun q => h1 q.1)]
theorem gd_s2 {u l k : Nat} (h : 1 < l - k) (hk : k < l) (h1 : ¬ l % (l - k) = 0) (hI : gdv u l l = gdv u l (l - k)) : gdv u l l = gdv u l (l - (k + 1)) := by
  rw [hI]
  generalize hd : l - (k + 1) = d
  rw [show l - k = d + 1 by omega] at h1 ⊢
  conv => lhs; unfold gdv
  rw [if_neg (by omega), if_neg (fun q => h1 q.2)]
theorem i3_pred {l k : Nat} (h : k < l) : i3 (l - (k + 1)) = i3 (l - k) + Int32.ofInt (-1) := by
  generalize hd : l - (k + 1) = d
  rw [show l - k = d + 1 by omega, i3_succ, show (Int32.ofInt (-1)) = -1 from rfl, Int32.add_assoc, show (1 : Int32) + -1 = 0 from rfl, Int32.add_zero]
theorem d_Bl_greatestDivisor_0 : decode c_Bl_greatestDivisor 0 = .ok (.iload_n 1, 1) := by decide +kernel
theorem d_Bl_greatestDivisor_1 : decode c_Bl_greatestDivisor 1 = .ok (.istore_n 2, 1) := by decide +kernel
theorem d_Bl_greatestDivisor_2 : decode c_Bl_greatestDivisor 2 = .ok (.iload_n 2, 1) := by decide +kernel
theorem d_Bl_greatestDivisor_3 : decode c_Bl_greatestDivisor 3 = .ok (.iconst 1, 1) := by decide +kernel
theorem d_Bl_greatestDivisor_4 : decode c_Bl_greatestDivisor 4 = .ok (.if_icmp .le 23, 3) := by decide +kernel
theorem d_Bl_greatestDivisor_7 : decode c_Bl_greatestDivisor 7 = .ok (.iload_n 0, 1) := by decide +kernel
theorem d_Bl_greatestDivisor_8 : decode c_Bl_greatestDivisor 8 = .ok (.iload_n 2, 1) := by decide +kernel
theorem d_Bl_greatestDivisor_9 : decode c_Bl_greatestDivisor 9 = .ok (.irem, 1) := by decide +kernel
theorem d_Bl_greatestDivisor_10 : decode c_Bl_greatestDivisor 10 = .ok (.ifCond .ne 11, 3) := by decide +kernel
theorem d_Bl_greatestDivisor_13 : decode c_Bl_greatestDivisor 13 = .ok (.iload_n 1, 1) := by decide +kernel
theorem d_Bl_greatestDivisor_14 : decode c_Bl_greatestDivisor 14 = .ok (.iload_n 2, 1) := by decide +kernel
theorem d_Bl_greatestDivisor_15 : decode c_Bl_greatestDivisor 15 = .ok (.irem, 1) := by decide +kernel
theorem d_Bl_greatestDivisor_16 : decode c_Bl_greatestDivisor 16 = .ok (.ifCond .ne 5, 3) := by decide +kernel
theorem d_Bl_greatestDivisor_19 : decode c_Bl_greatestDivisor 19 = .ok (.iload_n 2, 1) := by decide +kernel
theorem d_Bl_greatestDivisor_20 : decode c_Bl_greatestDivisor 20 = .ok (.ireturn, 1) := by decide +kernel
theorem d_Bl_greatestDivisor_21 : decode c_Bl_greatestDivisor 21 = .ok (.iinc 2 (-1), 3) := by decide +kernel
theorem d_Bl_greatestDivisor_24 : decode c_Bl_greatestDivisor 24 = .ok (.goto (-22), 3) := by decide +kernel
theorem d_Bl_greatestDivisor_27 : decode c_Bl_greatestDivisor 27 = .ok (.iconst 1, 1) := by decide +kernel
theorem d_Bl_greatestDivisor_28 : decode c_Bl_greatestDivisor 28 = .ok (.ireturn, 1) := by decide +kernel
theorem C_Bl_greatestDivisor {M : MM} {u l : Nat} (hu : u < 64) (hl : l < 64) (h0 : l ≠ 0) : AF y_Bl_greatestDivisor c_Bl_greatestDivisor 3 (some .int) 1 [vI (i3 u), vI (i3 l)] (M) (some (vI (i3 (gdv u l l)))) (M) := by
  refine AF.of k_Bl_greatestDivisor (lo := [some (vI (i3 u)), some (vI (i3 l)), none]) rfl (Nat.le_of_ble_eq_true rfl) (fun X hX hR => ?_)
  refine v_iload_n (pc := 0) hX rfl d_Bl_greatestDivisor_0 ?_
  refine v_istore_n (pc := 1) (lo' := [some (vI _), some (vI _), some (vI _)]) hX (Nat.le_of_ble_eq_true rfl) rfl d_Bl_greatestDivisor_1 ?_
  refine VW.cast (lo' := [some (vI (i3 u)), some (vI (i3 l)), some (vI (i3 (l - 0)))]) (st' := []) (G' := gM (M)) rfl rfl rfl ?_
  refine v_forI (X := X) (head := 2) (l - 1) (fun kk => [some (vI (i3 u)), some (vI (i3 l)), some (vI (i3 (l - kk)))]) (fun kk => M) (fun kk => gdv u l l = gdv u l (l - kk)) (rfl) (fun k hk hIk ih2 => ?_) (fun hIk => ?_)
  · show VW X 2 [some (vI (i3 u)), some (vI (i3 l)), some (vI (i3 (l - k)))] [] (gM (M))
    have hIk : gdv u l l = gdv u l (l - k) := hIk
    have hd : l - k < 64 := by omega
    have hd0 : ¬ i3 (l - k) = 0 := i3_ne0 (by omega) (by omega)
    have r1 := rem_i3 u hu (l - k) hd (by omega)
    have r2 := rem_i3 l hl (l - k) hd (by omega)
    refine v_iload_n (pc := 2) hX rfl d_Bl_greatestDivisor_2 ?_
    refine v_iconst (pc := 3) (v := 1) hX (by decide) d_Bl_greatestDivisor_3 ?_
    refine v_icmp_le (pc := 4) (tgt := 27) hX d_Bl_greatestDivisor_4 rfl (fun h4 => False.elim (by have := (i3_le (a := l - k) (b := 1) (by omega) (by decide)).mp h4; omega)) (fun h4 => ?_)
    refine v_iload_n (pc := 7) hX rfl d_Bl_greatestDivisor_7 ?_
    refine v_iload_n (pc := 8) hX rfl d_Bl_greatestDivisor_8 ?_
    refine v_irem (pc := 9) hX hd0 d_Bl_greatestDivisor_9 ?_
    refine v_if_ne (pc := 10) (tgt := 21) hX d_Bl_greatestDivisor_10 rfl (fun h10 => ?_) (fun h10 => ?_)
    · have a1 : ¬ u % (l - k) = 0 := fun q => by rw [r1, q] at h10; exact h10 rfl
      refine v_iinc (pc := 21) (lo' := [some (vI _), some (vI _), some (vI _)]) hX rfl rfl d_Bl_greatestDivisor_21 ?_
      refine v_goto (pc := 24) (tgt := 2) hX d_Bl_greatestDivisor_24 rfl ?_
      exact VW.cast (by rw [i3_pred (by omega)]) rfl rfl (ih2 (by first | exact gd_s (by omega) (by omega) a1 hIk | exact gd_s2 (by omega) (by omega) a1 hIk))
    · have a0 : u % (l - k) = 0 := by
        by_cases q : u % (l - k) = 0
        · exact q
        · rw [r1] at h10; exact absurd h10 (i3_ne0 q (by have := Nat.mod_lt u (show l - k > 0 by omega); omega))
      refine v_iload_n (pc := 13) hX rfl d_Bl_greatestDivisor_13 ?_
      refine v_iload_n (pc := 14) hX rfl d_Bl_greatestDivisor_14 ?_
      refine v_irem (pc := 15) hX hd0 d_Bl_greatestDivisor_15 ?_
      refine v_if_ne (pc := 16) (tgt := 21) hX d_Bl_greatestDivisor_16 rfl (fun h16 => ?_) (fun h16 => ?_)
      · have a1 : ¬ l % (l - k) = 0 := fun q => by rw [r2, q] at h16; exact h16 rfl
        refine v_iinc (pc := 21) (lo' := [some (vI _), some (vI _), some (vI _)]) hX rfl rfl d_Bl_greatestDivisor_21 ?_
        refine v_goto (pc := 24) (tgt := 2) hX d_Bl_greatestDivisor_24 rfl ?_
        exact VW.cast (by rw [i3_pred (by omega)]) rfl rfl (ih2 (by first | exact gd_s (by omega) (by omega) a1 hIk | exact gd_s2 (by omega) (by omega) a1 hIk))
      · have a2 : l % (l - k) = 0 := by
          by_cases q : l % (l - k) = 0
          · exact q
          · rw [r2] at h16; exact absurd h16 (i3_ne0 q (by have := Nat.mod_lt l (show l - k > 0 by omega); omega))
        refine v_iload_n (pc := 19) hX rfl d_Bl_greatestDivisor_19 ?_
        exact f_iret (pc := 20) hX hR (by rw [hIk, gd_hit (by omega) a0 a2]) (rfl) d_Bl_greatestDivisor_20
  · show VW X 2 [some (vI (i3 u)), some (vI (i3 l)), some (vI (i3 (l - (l - 1))))] [] (gM (M))
    have hIk : gdv u l l = gdv u l (l - (l - 1)) := hIk
    refine v_iload_n (pc := 2) hX rfl d_Bl_greatestDivisor_2 ?_
    refine v_iconst (pc := 3) (v := 1) hX (by decide) d_Bl_greatestDivisor_3 ?_
    refine v_icmp_le (pc := 4) (tgt := 27) hX d_Bl_greatestDivisor_4 rfl (fun h4 => ?_) (fun h4 => False.elim (absurd (by rw [show l - (l - 1) = 1 by omega]; exact Int32.le_refl _) h4))
    refine v_iconst (pc := 27) (v := 1) hX (by decide) d_Bl_greatestDivisor_27 ?_
    exact f_iret (pc := 28) hX hR (by rw [hIk, show l - (l - 1) = 1 by omega]; rfl) (rfl) d_Bl_greatestDivisor_28
end
section
/-! Guesses, readings. -/
theorem d_Gu_hasMarks_0 : decode c_Gu_hasMarks 0 = .ok (.iconst 0, 1) := by decide +kernel
theorem d_Gu_hasMarks_1 : decode c_Gu_hasMarks 1 = .ok (.istore 5, 2) := by decide +kernel
theorem d_Gu_hasMarks_3 : decode c_Gu_hasMarks 3 = .ok (.iload 5, 2) := by decide +kernel
theorem d_Gu_hasMarks_5 : decode c_Gu_hasMarks 5 = .ok (.iload 4, 2) := by decide +kernel
theorem d_Gu_hasMarks_7 : decode c_Gu_hasMarks 7 = .ok (.if_icmp .ge 29, 3) := by decide +kernel
theorem d_Gu_hasMarks_10 : decode c_Gu_hasMarks 10 = .ok (.aload_n 0, 1) := by decide +kernel
theorem d_Gu_hasMarks_11 : decode c_Gu_hasMarks 11 = .ok (.iload_n 1, 1) := by decide +kernel
theorem d_Gu_hasMarks_12 : decode c_Gu_hasMarks 12 = .ok (.iload 5, 2) := by decide +kernel
theorem d_Gu_hasMarks_14 : decode c_Gu_hasMarks 14 = .ok (.invokevirtual 31, 3) := by decide +kernel
theorem d_Gu_hasMarks_17 : decode c_Gu_hasMarks 17 = .ok (.aload_n 2, 1) := by decide +kernel
theorem d_Gu_hasMarks_18 : decode c_Gu_hasMarks 18 = .ok (.iload_n 3, 1) := by decide +kernel
theorem d_Gu_hasMarks_19 : decode c_Gu_hasMarks 19 = .ok (.iload 5, 2) := by decide +kernel
theorem d_Gu_hasMarks_21 : decode c_Gu_hasMarks 21 = .ok (.iadd, 1) := by decide +kernel
theorem d_Gu_hasMarks_22 : decode c_Gu_hasMarks 22 = .ok (.invokevirtual 35, 3) := by decide +kernel
theorem d_Gu_hasMarks_25 : decode c_Gu_hasMarks 25 = .ok (.if_icmp .eq 5, 3) := by decide +kernel
theorem d_Gu_hasMarks_28 : decode c_Gu_hasMarks 28 = .ok (.iconst 0, 1) := by decide +kernel
theorem d_Gu_hasMarks_29 : decode c_Gu_hasMarks 29 = .ok (.ireturn, 1) := by decide +kernel
theorem d_Gu_hasMarks_30 : decode c_Gu_hasMarks 30 = .ok (.iinc 5 1, 3) := by decide +kernel
theorem d_Gu_hasMarks_33 : decode c_Gu_hasMarks 33 = .ok (.goto (-30), 3) := by decide +kernel
theorem d_Gu_hasMarks_36 : decode c_Gu_hasMarks 36 = .ok (.iconst 1, 1) := by decide +kernel
theorem d_Gu_hasMarks_37 : decode c_Gu_hasMarks 37 = .ok (.ireturn, 1) := by decide +kernel
theorem C_Gu_hasMarks {M : MM} {n r c a m s : Nat} {J : JT} {q : Nat → Int32} (hJ : CJ M n J) (hr : SH[r]? = some (0, 5)) (hn : NF r 0 = c) (hc : SH[c]? = some (1, 60)) (ha : a + m ≤ 60) (hq : ∀ t, t < m → M c (a + t) = q t) (hs : s < 64) : AF y_Gu_hasMarks c_Gu_hasMarks 6 (some .boolean) 5 [vR 3, vI (i3 s), vR r, vI (i3 a), vI (i3 m)] (M) (some (vI (bI (hmB J n s q m)))) (M) := by
  refine AF.of k_Gu_hasMarks (lo := [some (vR 3), some (vI (i3 s)), some (vR r), some (vI (i3 a)), some (vI (i3 m)), none]) rfl (Nat.le_of_ble_eq_true rfl) (fun X hX hR => ?_)
  refine v_iconst (pc := 0) (v := 0) hX (by decide) d_Gu_hasMarks_0 ?_
  refine v_istore (pc := 1) (lo' := [some (vR _), some (vI _), some (vR _), some (vI _), some (vI _), some (vI _)]) hX (Nat.le_of_ble_eq_true rfl) rfl d_Gu_hasMarks_1 ?_
  refine VW.cast (lo' := [some (vR 3), some (vI (i3 s)), some (vR r), some (vI (i3 a)), some (vI (i3 m)), some (vI (i3 0))]) (st' := []) (G' := gM (M)) rfl rfl rfl ?_
  refine v_forI (X := X) (head := 3) (m) (fun kk => [some (vR 3), some (vI (i3 s)), some (vR r), some (vI (i3 a)), some (vI (i3 m)), some (vI (i3 kk))]) (fun kk => M) (fun kk => allB (fun t => decide (blN J n s (i3 t) = q t)) kk = true) (rfl) (fun k hk hIk ih3 => ?_) (fun hIk => ?_)
  · show VW X 3 [some (vR 3), some (vI (i3 s)), some (vR r), some (vI (i3 a)), some (vI (i3 m)), some (vI (i3 k))] [] (gM (M))
    have hIk : allB (fun t => decide (blN J n s (i3 t) = q t)) k = true := hIk
    refine v_iload (pc := 3) hX rfl d_Gu_hasMarks_3 ?_
    refine v_iload (pc := 5) hX rfl d_Gu_hasMarks_5 ?_
    refine v_icmp_ge (pc := 7) (tgt := 36) hX d_Gu_hasMarks_7 rfl (fun h7 => False.elim (i3_ge_abs hk (by omega) h7)) (fun h7 => ?_)
    refine v_aload_n (pc := 10) hX rfl d_Gu_hasMarks_10 ?_
    refine v_iload_n (pc := 11) hX rfl d_Gu_hasMarks_11 ?_
    refine v_iload (pc := 12) hX rfl d_Gu_hasMarks_12 ?_
    refine f_callV (pc := 14) hX k_Sp_markOf ki_Sp_markOf kv_Sp_markOf ml_Gu_31 (C_Sp_markOf hJ (by assumption)) rfl rfl rfl rfl rfl (Nat.le_of_ble_eq_true rfl) (Nat.le_of_ble_eq_true rfl) (Nat.le_of_ble_eq_true rfl) d_Gu_hasMarks_14 ?_
    refine v_aload_n (pc := 17) hX rfl d_Gu_hasMarks_17 ?_
    refine v_iload_n (pc := 18) hX rfl d_Gu_hasMarks_18 ?_
    refine v_iload (pc := 19) hX rfl d_Gu_hasMarks_19 ?_
    refine v_iadd (pc := 21) hX d_Gu_hasMarks_21 ?_
    rw [← i3_add]
    refine f_callV (pc := 22) hX k_Sh_at ki_Sh_at kv_Sh_at ml_Gu_35 (C_Sh_at (j := a + k) hr hn hc (by omega)) (by assumption) rfl rfl rfl rfl (Nat.le_of_ble_eq_true rfl) (Nat.le_of_ble_eq_true rfl) (Nat.le_of_ble_eq_true rfl) d_Gu_hasMarks_22 ?_
    refine v_icmp_eq (pc := 25) (tgt := 30) hX d_Gu_hasMarks_25 rfl (fun h25 => ?_) (fun h25 => ?_)
    · refine v_iinc (pc := 30) (lo' := [some (vR _), some (vI _), some (vR _), some (vI _), some (vI _), some (vI _)]) hX rfl rfl d_Gu_hasMarks_30 ?_
      refine v_goto (pc := 33) (tgt := 3) hX d_Gu_hasMarks_33 rfl ?_
      exact VW.cast (by rw [i3_succ]; rfl) rfl rfl (ih3 (allB_s hIk (decide_eq_true (h25.trans (hq k hk)))))
    · refine v_iconst (pc := 28) (v := 0) hX (by decide) d_Gu_hasMarks_28 ?_
      exact f_zret (pc := 29) hX hR (bF (allB_no hk (decide_eq_false (fun e => h25 (e.trans (hq k hk).symm))))) (rfl) d_Gu_hasMarks_29
  · show VW X 3 [some (vR 3), some (vI (i3 s)), some (vR r), some (vI (i3 a)), some (vI (i3 m)), some (vI (i3 (m)))] [] (gM (M))
    have hIk : allB (fun t => decide (blN J n s (i3 t) = q t)) (m) = true := hIk
    refine v_iload (pc := 3) hX rfl d_Gu_hasMarks_3 ?_
    refine v_iload (pc := 5) hX rfl d_Gu_hasMarks_5 ?_
    refine v_icmp_ge (pc := 7) (tgt := 36) hX d_Gu_hasMarks_7 rfl (fun h7 => ?_) (fun h7 => False.elim (absurd (Int32.le_refl _) h7))
    refine v_iconst (pc := 36) (v := 1) hX (by decide) d_Gu_hasMarks_36 ?_
    exact f_zret (pc := 37) hX hR (bT hIk) (rfl) d_Gu_hasMarks_37
theorem d_Gu_jars_0 : decode c_Gu_jars 0 = .ok (.iconst 0, 1) := by decide +kernel
theorem d_Gu_jars_1 : decode c_Gu_jars 1 = .ok (.istore 4, 2) := by decide +kernel
theorem d_Gu_jars_3 : decode c_Gu_jars 3 = .ok (.iconst 0, 1) := by decide +kernel
theorem d_Gu_jars_4 : decode c_Gu_jars 4 = .ok (.istore 5, 2) := by decide +kernel
theorem d_Gu_jars_6 : decode c_Gu_jars 6 = .ok (.iload 5, 2) := by decide +kernel
theorem d_Gu_jars_8 : decode c_Gu_jars 8 = .ok (.aload_n 0, 1) := by decide +kernel
theorem d_Gu_jars_9 : decode c_Gu_jars 9 = .ok (.getfield 9, 3) := by decide +kernel
theorem d_Gu_jars_12 : decode c_Gu_jars 12 = .ok (.if_icmp .ge 36, 3) := by decide +kernel
theorem d_Gu_jars_15 : decode c_Gu_jars 15 = .ok (.iload 4, 2) := by decide +kernel
theorem d_Gu_jars_17 : decode c_Gu_jars 17 = .ok (.aload_n 0, 1) := by decide +kernel
theorem d_Gu_jars_18 : decode c_Gu_jars 18 = .ok (.iconst 1, 1) := by decide +kernel
theorem d_Gu_jars_19 : decode c_Gu_jars 19 = .ok (.iload 5, 2) := by decide +kernel
theorem d_Gu_jars_21 : decode c_Gu_jars 21 = .ok (.ishl, 1) := by decide +kernel
theorem d_Gu_jars_22 : decode c_Gu_jars 22 = .ok (.aload_n 1, 1) := by decide +kernel
theorem d_Gu_jars_23 : decode c_Gu_jars 23 = .ok (.iload_n 2, 1) := by decide +kernel
theorem d_Gu_jars_24 : decode c_Gu_jars 24 = .ok (.iload_n 3, 1) := by decide +kernel
theorem d_Gu_jars_25 : decode c_Gu_jars 25 = .ok (.invokestatic 15, 3) := by decide +kernel
theorem d_Gu_jars_28 : decode c_Gu_jars 28 = .ok (.ifCond .eq 10, 3) := by decide +kernel
theorem d_Gu_jars_31 : decode c_Gu_jars 31 = .ok (.iconst 1, 1) := by decide +kernel
theorem d_Gu_jars_32 : decode c_Gu_jars 32 = .ok (.iload 5, 2) := by decide +kernel
theorem d_Gu_jars_34 : decode c_Gu_jars 34 = .ok (.ishl, 1) := by decide +kernel
theorem d_Gu_jars_35 : decode c_Gu_jars 35 = .ok (.goto 4, 3) := by decide +kernel
theorem d_Gu_jars_38 : decode c_Gu_jars 38 = .ok (.iconst 0, 1) := by decide +kernel
theorem d_Gu_jars_39 : decode c_Gu_jars 39 = .ok (.ior, 1) := by decide +kernel
theorem d_Gu_jars_40 : decode c_Gu_jars 40 = .ok (.istore 4, 2) := by decide +kernel
theorem d_Gu_jars_42 : decode c_Gu_jars 42 = .ok (.iinc 5 1, 3) := by decide +kernel
theorem d_Gu_jars_45 : decode c_Gu_jars 45 = .ok (.goto (-39), 3) := by decide +kernel
theorem d_Gu_jars_48 : decode c_Gu_jars 48 = .ok (.iload 4, 2) := by decide +kernel
theorem d_Gu_jars_50 : decode c_Gu_jars 50 = .ok (.ireturn, 1) := by decide +kernel
theorem C_Gu_jars {M : MM} {n r c a m : Nat} {J : JT} {q : Nat → Int32} (hJ : CJ M n J) (hr : SH[r]? = some (0, 5)) (hn : NF r 0 = c) (hc : SH[c]? = some (1, 60)) (ha : a + m ≤ 60) (hq : ∀ t, t < m → M c (a + t) = q t) : AF y_Gu_jars c_Gu_jars 6 (some .int) 6 [vR 3, vR r, vI (i3 a), vI (i3 m)] (M) (some (vI (i3 (gjN (fun j => hmB J n (2 ^ j) q m) n)))) (M) := by
  have h6 := hJ.1
  have hM := hJ.2.1
  refine AF.of k_Gu_jars (lo := [some (vR 3), some (vR r), some (vI (i3 a)), some (vI (i3 m)), none, none]) rfl (Nat.le_of_ble_eq_true rfl) (fun X hX hR => ?_)
  refine v_iconst (pc := 0) (v := 0) hX (by decide) d_Gu_jars_0 ?_
  refine v_istore (pc := 1) (lo' := [some (vR _), some (vR _), some (vI _), some (vI _), some (vI _), none]) hX (Nat.le_of_ble_eq_true rfl) rfl d_Gu_jars_1 ?_
  refine v_iconst (pc := 3) (v := 0) hX (by decide) d_Gu_jars_3 ?_
  refine v_istore (pc := 4) (lo' := [some (vR _), some (vR _), some (vI _), some (vI _), some (vI _), some (vI _)]) hX (Nat.le_of_ble_eq_true rfl) rfl d_Gu_jars_4 ?_
  refine VW.cast (lo' := [some (vR 3), some (vR r), some (vI (i3 a)), some (vI (i3 m)), some (vI (i3 (gjN (fun j => hmB J n (2 ^ j) q m) 0))), some (vI (i3 0))]) (st' := []) (G' := gM (M)) rfl rfl rfl ?_
  refine v_for (X := X) (head := 6) (n) (fun kk => [some (vR 3), some (vR r), some (vI (i3 a)), some (vI (i3 m)), some (vI (i3 (gjN (fun j => hmB J n (2 ^ j) q m) kk))), some (vI (i3 kk))]) (fun kk => M) (fun k hk ih6 => ?_) ?_
  · show VW X 6 [some (vR 3), some (vR r), some (vI (i3 a)), some (vI (i3 m)), some (vI (i3 (gjN (fun j => hmB J n (2 ^ j) q m) k))), some (vI (i3 k))] [] (gM (M))
    have hb := shl_i3 k (by omega)
    have h2k : 2 ^ k < 64 := Nat.lt_of_lt_of_le (Nat.pow_lt_pow_right (by decide) hk) (pow6 h6)
    have hl := gjN_lt (fun j => hmB J n (2 ^ j) q m) k
    refine v_iload (pc := 6) hX rfl d_Gu_jars_6 ?_
    refine v_aload_n (pc := 8) hX rfl d_Gu_jars_8 ?_
    refine g_getI (pc := 9) hX fl_Gu_9 rfl rfl d_Gu_jars_9 ?_
    refine v_icmp_ge (pc := 12) (tgt := 48) hX d_Gu_jars_12 rfl (fun h12 => False.elim (i3_ge_abs hk (by omega) (by rw [← hM]; exact h12))) (fun h12 => ?_)
    refine v_iload (pc := 15) hX rfl d_Gu_jars_15 ?_
    refine v_aload_n (pc := 17) hX rfl d_Gu_jars_17 ?_
    refine v_iconst (pc := 18) (v := 1) hX (by decide) d_Gu_jars_18 ?_
    refine v_iload (pc := 19) hX rfl d_Gu_jars_19 ?_
    refine v_ishl (pc := 21) hX d_Gu_jars_21 ?_
    refine v_aload_n (pc := 22) hX rfl d_Gu_jars_22 ?_
    refine v_iload_n (pc := 23) hX rfl d_Gu_jars_23 ?_
    refine v_iload_n (pc := 24) hX rfl d_Gu_jars_24 ?_
    rw [hb]
    refine f_callS (pc := 25) hX k_Gu_hasMarks ks_Gu_hasMarks ml_Gu_15 (C_Gu_hasMarks (s := 2 ^ k) hJ hr hn hc ha hq h2k) rfl rfl rfl (Nat.le_of_ble_eq_true rfl) (Nat.le_of_ble_eq_true rfl) (Nat.le_of_ble_eq_true rfl) d_Gu_jars_25 ?_
    refine f_ifeqB (pc := 28) (tgt := 38) hX d_Gu_jars_28 rfl (fun h28 => ?_) (fun h28 => ?_)
    · have e : gjN (fun j => hmB J n (2 ^ j) q m) (k + 1) = gjN (fun j => hmB J n (2 ^ j) q m) k := by simp [gjN, h28]
      refine v_iconst (pc := 38) (v := 0) hX (by decide) d_Gu_jars_38 ?_
      refine v_ior (pc := 39) hX d_Gu_jars_39 ?_
      refine v_istore (pc := 40) (lo' := [some (vR _), some (vR _), some (vI _), some (vI _), some (vI _), some (vI _)]) hX (Nat.le_of_ble_eq_true rfl) rfl d_Gu_jars_40 ?_
      refine v_iinc (pc := 42) (lo' := [some (vR _), some (vR _), some (vI _), some (vI _), some (vI _), some (vI _)]) hX rfl rfl d_Gu_jars_42 ?_
      refine v_goto (pc := 45) (tgt := 6) hX d_Gu_jars_45 rfl ?_
      exact VW.cast (by first | (rw [e, i3_succ, hb, or_i3 k (by omega) _ hl]; rfl) | (rw [e, i3_succ, or_0]; rfl)) rfl rfl ih6
    · have e : gjN (fun j => hmB J n (2 ^ j) q m) (k + 1) = gjN (fun j => hmB J n (2 ^ j) q m) k + 2 ^ k := by simp [gjN, h28]
      refine v_iconst (pc := 31) (v := 1) hX (by decide) d_Gu_jars_31 ?_
      refine v_iload (pc := 32) hX rfl d_Gu_jars_32 ?_
      refine v_ishl (pc := 34) hX d_Gu_jars_34 ?_
      refine v_goto (pc := 35) (tgt := 39) hX d_Gu_jars_35 rfl ?_
      refine v_ior (pc := 39) hX d_Gu_jars_39 ?_
      refine v_istore (pc := 40) (lo' := [some (vR _), some (vR _), some (vI _), some (vI _), some (vI _), some (vI _)]) hX (Nat.le_of_ble_eq_true rfl) rfl d_Gu_jars_40 ?_
      refine v_iinc (pc := 42) (lo' := [some (vR _), some (vR _), some (vI _), some (vI _), some (vI _), some (vI _)]) hX rfl rfl d_Gu_jars_42 ?_
      refine v_goto (pc := 45) (tgt := 6) hX d_Gu_jars_45 rfl ?_
      exact VW.cast (by first | (rw [e, i3_succ, hb, or_i3 k (by omega) _ hl]; rfl) | (rw [e, i3_succ, or_0]; rfl)) rfl rfl ih6
  · show VW X 6 [some (vR 3), some (vR r), some (vI (i3 a)), some (vI (i3 m)), some (vI (i3 (gjN (fun j => hmB J n (2 ^ j) q m) (n)))), some (vI (i3 (n)))] [] (gM (M))
    refine v_iload (pc := 6) hX rfl d_Gu_jars_6 ?_
    refine v_aload_n (pc := 8) hX rfl d_Gu_jars_8 ?_
    refine g_getI (pc := 9) hX fl_Gu_9 rfl rfl d_Gu_jars_9 ?_
    refine v_icmp_ge (pc := 12) (tgt := 48) hX d_Gu_jars_12 rfl (fun h12 => ?_) (fun h12 => False.elim (absurd (by rw [hM]; exact Int32.le_refl _) h12))
    refine v_iload (pc := 48) hX rfl d_Gu_jars_48 ?_
    exact f_iret (pc := 50) hX hR (rfl) (rfl) d_Gu_jars_50
theorem d_Gu_howManyPairs_0 : decode c_Gu_howManyPairs 0 = .ok (.iconst 0, 1) := by decide +kernel
theorem d_Gu_howManyPairs_1 : decode c_Gu_howManyPairs 1 = .ok (.istore 4, 2) := by decide +kernel
theorem d_Gu_howManyPairs_3 : decode c_Gu_howManyPairs 3 = .ok (.iconst 1, 1) := by decide +kernel
theorem d_Gu_howManyPairs_4 : decode c_Gu_howManyPairs 4 = .ok (.istore 5, 2) := by decide +kernel
theorem d_Gu_howManyPairs_6 : decode c_Gu_howManyPairs 6 = .ok (.iload 5, 2) := by decide +kernel
theorem d_Gu_howManyPairs_8 : decode c_Gu_howManyPairs 8 = .ok (.aload_n 0, 1) := by decide +kernel
theorem d_Gu_howManyPairs_9 : decode c_Gu_howManyPairs 9 = .ok (.invokevirtual 21, 3) := by decide +kernel
theorem d_Gu_howManyPairs_12 : decode c_Gu_howManyPairs 12 = .ok (.if_icmp .ge 40, 3) := by decide +kernel
theorem d_Gu_howManyPairs_15 : decode c_Gu_howManyPairs 15 = .ok (.iload 4, 2) := by decide +kernel
theorem d_Gu_howManyPairs_17 : decode c_Gu_howManyPairs 17 = .ok (.iload 5, 2) := by decide +kernel
theorem d_Gu_howManyPairs_19 : decode c_Gu_howManyPairs 19 = .ok (.invokestatic 25, 3) := by decide +kernel
theorem d_Gu_howManyPairs_22 : decode c_Gu_howManyPairs 22 = .ok (.iconst 2, 1) := by decide +kernel
theorem d_Gu_howManyPairs_23 : decode c_Gu_howManyPairs 23 = .ok (.if_icmp .ne 19, 3) := by decide +kernel
theorem d_Gu_howManyPairs_26 : decode c_Gu_howManyPairs 26 = .ok (.aload_n 0, 1) := by decide +kernel
theorem d_Gu_howManyPairs_27 : decode c_Gu_howManyPairs 27 = .ok (.iload 5, 2) := by decide +kernel
theorem d_Gu_howManyPairs_29 : decode c_Gu_howManyPairs 29 = .ok (.aload_n 1, 1) := by decide +kernel
theorem d_Gu_howManyPairs_30 : decode c_Gu_howManyPairs 30 = .ok (.iload_n 2, 1) := by decide +kernel
theorem d_Gu_howManyPairs_31 : decode c_Gu_howManyPairs 31 = .ok (.iload_n 3, 1) := by decide +kernel
theorem d_Gu_howManyPairs_32 : decode c_Gu_howManyPairs 32 = .ok (.invokestatic 15, 3) := by decide +kernel
theorem d_Gu_howManyPairs_35 : decode c_Gu_howManyPairs 35 = .ok (.ifCond .eq 7, 3) := by decide +kernel
theorem d_Gu_howManyPairs_38 : decode c_Gu_howManyPairs 38 = .ok (.iconst 1, 1) := by decide +kernel
theorem d_Gu_howManyPairs_39 : decode c_Gu_howManyPairs 39 = .ok (.goto 4, 3) := by decide +kernel
theorem d_Gu_howManyPairs_42 : decode c_Gu_howManyPairs 42 = .ok (.iconst 0, 1) := by decide +kernel
theorem d_Gu_howManyPairs_43 : decode c_Gu_howManyPairs 43 = .ok (.iadd, 1) := by decide +kernel
theorem d_Gu_howManyPairs_44 : decode c_Gu_howManyPairs 44 = .ok (.istore 4, 2) := by decide +kernel
theorem d_Gu_howManyPairs_46 : decode c_Gu_howManyPairs 46 = .ok (.iinc 5 1, 3) := by decide +kernel
theorem d_Gu_howManyPairs_49 : decode c_Gu_howManyPairs 49 = .ok (.goto (-43), 3) := by decide +kernel
theorem d_Gu_howManyPairs_52 : decode c_Gu_howManyPairs 52 = .ok (.iload 4, 2) := by decide +kernel
theorem d_Gu_howManyPairs_54 : decode c_Gu_howManyPairs 54 = .ok (.ireturn, 1) := by decide +kernel
theorem C_Gu_howManyPairs {M : MM} {n r c a m : Nat} {J : JT} {q : Nat → Int32} (hJ : CJ M n J) (hr : SH[r]? = some (0, 5)) (hn : NF r 0 = c) (hc : SH[c]? = some (1, 60)) (ha : a + m ≤ 60) (hq : ∀ t, t < m → M c (a + t) = q t) : AF y_Gu_howManyPairs c_Gu_howManyPairs 6 (some .int) 6 [vR 3, vR r, vI (i3 a), vI (i3 m)] (M) (some (vI (i3 (cntB (fun s => decide (pop 6 s = 2) && hmB J n s q m) (2 ^ n - 1))))) (M) := by
  have h6 := hJ.1
  have hM := hJ.2.1
  have hp := pow6 h6
  refine AF.of k_Gu_howManyPairs (lo := [some (vR 3), some (vR r), some (vI (i3 a)), some (vI (i3 m)), none, none]) rfl (Nat.le_of_ble_eq_true rfl) (fun X hX hR => ?_)
  refine v_iconst (pc := 0) (v := 0) hX (by decide) d_Gu_howManyPairs_0 ?_
  refine v_istore (pc := 1) (lo' := [some (vR _), some (vR _), some (vI _), some (vI _), some (vI _), none]) hX (Nat.le_of_ble_eq_true rfl) rfl d_Gu_howManyPairs_1 ?_
  refine v_iconst (pc := 3) (v := 1) hX (by decide) d_Gu_howManyPairs_3 ?_
  refine v_istore (pc := 4) (lo' := [some (vR _), some (vR _), some (vI _), some (vI _), some (vI _), some (vI _)]) hX (Nat.le_of_ble_eq_true rfl) rfl d_Gu_howManyPairs_4 ?_
  refine VW.cast (lo' := [some (vR 3), some (vR r), some (vI (i3 a)), some (vI (i3 m)), some (vI (i3 (cntB (fun s => decide (pop 6 s = 2) && hmB J n s q m) 0))), some (vI (i3 (0 + 1)))]) (st' := []) (G' := gM (M)) rfl rfl rfl ?_
  refine v_for (X := X) (head := 6) (2 ^ n - 1) (fun kk => [some (vR 3), some (vR r), some (vI (i3 a)), some (vI (i3 m)), some (vI (i3 (cntB (fun s => decide (pop 6 s = 2) && hmB J n s q m) kk))), some (vI (i3 (kk + 1)))]) (fun kk => M) (fun k hk ih6 => ?_) ?_
  · show VW X 6 [some (vR 3), some (vR r), some (vI (i3 a)), some (vI (i3 m)), some (vI (i3 (cntB (fun s => decide (pop 6 s = 2) && hmB J n s q m) k))), some (vI (i3 (k + 1)))] [] (gM (M))
    have hs : k + 1 < 64 := by omega
    refine v_iload (pc := 6) hX rfl d_Gu_howManyPairs_6 ?_
    refine v_aload_n (pc := 8) hX rfl d_Gu_howManyPairs_8 ?_
    refine f_callV (pc := 9) hX k_Sp_setsEnd ki_Sp_setsEnd kv_Sp_setsEnd ml_Gu_21 (C_Sp_setsEnd hJ) rfl rfl rfl rfl rfl (Nat.le_of_ble_eq_true rfl) (Nat.le_of_ble_eq_true rfl) (Nat.le_of_ble_eq_true rfl) d_Gu_howManyPairs_9 ?_
    refine v_icmp_ge (pc := 12) (tgt := 52) hX d_Gu_howManyPairs_12 rfl (fun h12 => False.elim (i3_ge_abs (k := k + 1) (n := 2 ^ n) (by omega) (by omega) h12)) (fun h12 => ?_)
    refine v_iload (pc := 15) hX rfl d_Gu_howManyPairs_15 ?_
    refine v_iload (pc := 17) hX rfl d_Gu_howManyPairs_17 ?_
    refine f_callS (pc := 19) hX k_jI_bitCount ks_jI_bitCount ml_Gu_25 (C_jI_bitCount) rfl rfl rfl (Nat.le_of_ble_eq_true rfl) (Nat.le_of_ble_eq_true rfl) (Nat.le_of_ble_eq_true rfl) d_Gu_howManyPairs_19 ?_
    refine v_iconst (pc := 22) (v := 2) hX (by decide) d_Gu_howManyPairs_22 ?_
    refine v_icmp_ne (pc := 23) (tgt := 42) hX d_Gu_howManyPairs_23 rfl (fun h23 => ?_) (fun h23 => ?_)
    · rw [jbc_pop _ hs] at h23
      have a1 : ¬ pop 6 (k + 1) = 2 := fun x => h23 (by rw [x]; rfl)
      have e : cntB (fun s => decide (pop 6 s = 2) && hmB J n s q m) (k + 1) = cntB (fun s => decide (pop 6 s = 2) && hmB J n s q m) k := by simp [cntB, a1]
      refine v_iconst (pc := 42) (v := 0) hX (by decide) d_Gu_howManyPairs_42 ?_
      refine v_iadd (pc := 43) hX d_Gu_howManyPairs_43 ?_
      refine v_istore (pc := 44) (lo' := [some (vR _), some (vR _), some (vI _), some (vI _), some (vI _), some (vI _)]) hX (Nat.le_of_ble_eq_true rfl) rfl d_Gu_howManyPairs_44 ?_
      refine v_iinc (pc := 46) (lo' := [some (vR _), some (vR _), some (vI _), some (vI _), some (vI _), some (vI _)]) hX rfl rfl d_Gu_howManyPairs_46 ?_
      refine v_goto (pc := 49) (tgt := 6) hX d_Gu_howManyPairs_49 rfl ?_
      exact VW.cast (by first | (rw [e, i3_succ (k + 1), i3_succ]; rfl) | (rw [e, i3_succ (k + 1), Int32.add_zero]; rfl)) rfl rfl ih6
    · rw [jbc_pop _ hs] at h23
      have a1 : pop 6 (k + 1) = 2 := (i3_inj (by have := pop_lt hs; omega) (by decide)).mp (show i3 (pop 6 (k + 1)) = i3 2 from h23)
      refine v_aload_n (pc := 26) hX rfl d_Gu_howManyPairs_26 ?_
      refine v_iload (pc := 27) hX rfl d_Gu_howManyPairs_27 ?_
      refine v_aload_n (pc := 29) hX rfl d_Gu_howManyPairs_29 ?_
      refine v_iload_n (pc := 30) hX rfl d_Gu_howManyPairs_30 ?_
      refine v_iload_n (pc := 31) hX rfl d_Gu_howManyPairs_31 ?_
      refine f_callS (pc := 32) hX k_Gu_hasMarks ks_Gu_hasMarks ml_Gu_15 (C_Gu_hasMarks hJ hr hn hc ha hq (by assumption)) rfl rfl rfl (Nat.le_of_ble_eq_true rfl) (Nat.le_of_ble_eq_true rfl) (Nat.le_of_ble_eq_true rfl) d_Gu_howManyPairs_32 ?_
      refine f_ifeqB (pc := 35) (tgt := 42) hX d_Gu_howManyPairs_35 rfl (fun h35 => ?_) (fun h35 => ?_)
      · have e : cntB (fun s => decide (pop 6 s = 2) && hmB J n s q m) (k + 1) = cntB (fun s => decide (pop 6 s = 2) && hmB J n s q m) k := by simp [cntB, h35]
        refine v_iconst (pc := 42) (v := 0) hX (by decide) d_Gu_howManyPairs_42 ?_
        refine v_iadd (pc := 43) hX d_Gu_howManyPairs_43 ?_
        refine v_istore (pc := 44) (lo' := [some (vR _), some (vR _), some (vI _), some (vI _), some (vI _), some (vI _)]) hX (Nat.le_of_ble_eq_true rfl) rfl d_Gu_howManyPairs_44 ?_
        refine v_iinc (pc := 46) (lo' := [some (vR _), some (vR _), some (vI _), some (vI _), some (vI _), some (vI _)]) hX rfl rfl d_Gu_howManyPairs_46 ?_
        refine v_goto (pc := 49) (tgt := 6) hX d_Gu_howManyPairs_49 rfl ?_
        exact VW.cast (by first | (rw [e, i3_succ (k + 1), i3_succ]; rfl) | (rw [e, i3_succ (k + 1), Int32.add_zero]; rfl)) rfl rfl ih6
      · have e : cntB (fun s => decide (pop 6 s = 2) && hmB J n s q m) (k + 1) = cntB (fun s => decide (pop 6 s = 2) && hmB J n s q m) k + 1 := by simp [cntB, a1, h35]
        refine v_iconst (pc := 38) (v := 1) hX (by decide) d_Gu_howManyPairs_38 ?_
        refine v_goto (pc := 39) (tgt := 43) hX d_Gu_howManyPairs_39 rfl ?_
        refine v_iadd (pc := 43) hX d_Gu_howManyPairs_43 ?_
        refine v_istore (pc := 44) (lo' := [some (vR _), some (vR _), some (vI _), some (vI _), some (vI _), some (vI _)]) hX (Nat.le_of_ble_eq_true rfl) rfl d_Gu_howManyPairs_44 ?_
        refine v_iinc (pc := 46) (lo' := [some (vR _), some (vR _), some (vI _), some (vI _), some (vI _), some (vI _)]) hX rfl rfl d_Gu_howManyPairs_46 ?_
        refine v_goto (pc := 49) (tgt := 6) hX d_Gu_howManyPairs_49 rfl ?_
        exact VW.cast (by first | (rw [e, i3_succ (k + 1), i3_succ]; rfl) | (rw [e, i3_succ (k + 1), Int32.add_zero]; rfl)) rfl rfl ih6
  · show VW X 6 [some (vR 3), some (vR r), some (vI (i3 a)), some (vI (i3 m)), some (vI (i3 (cntB (fun s => decide (pop 6 s = 2) && hmB J n s q m) (2 ^ n - 1)))), some (vI (i3 ((2 ^ n - 1) + 1)))] [] (gM (M))
    refine v_iload (pc := 6) hX rfl d_Gu_howManyPairs_6 ?_
    refine v_aload_n (pc := 8) hX rfl d_Gu_howManyPairs_8 ?_
    refine f_callV (pc := 9) hX k_Sp_setsEnd ki_Sp_setsEnd kv_Sp_setsEnd ml_Gu_21 (C_Sp_setsEnd hJ) rfl rfl rfl rfl rfl (Nat.le_of_ble_eq_true rfl) (Nat.le_of_ble_eq_true rfl) (Nat.le_of_ble_eq_true rfl) d_Gu_howManyPairs_9 ?_
    refine v_icmp_ge (pc := 12) (tgt := 52) hX d_Gu_howManyPairs_12 rfl (fun h12 => ?_) (fun h12 => False.elim (absurd set_end h12))
    refine v_iload (pc := 52) hX rfl d_Gu_howManyPairs_52 ?_
    exact f_iret (pc := 54) hX hR (rfl) (rfl) d_Gu_howManyPairs_54
theorem d_Gu_leastPair_0 : decode c_Gu_leastPair 0 = .ok (.iconst 1, 1) := by decide +kernel
theorem d_Gu_leastPair_1 : decode c_Gu_leastPair 1 = .ok (.istore 4, 2) := by decide +kernel
theorem d_Gu_leastPair_3 : decode c_Gu_leastPair 3 = .ok (.iload 4, 2) := by decide +kernel
theorem d_Gu_leastPair_5 : decode c_Gu_leastPair 5 = .ok (.aload_n 0, 1) := by decide +kernel
theorem d_Gu_leastPair_6 : decode c_Gu_leastPair 6 = .ok (.invokevirtual 21, 3) := by decide +kernel
theorem d_Gu_leastPair_9 : decode c_Gu_leastPair 9 = .ok (.if_icmp .ge 33, 3) := by decide +kernel
theorem d_Gu_leastPair_12 : decode c_Gu_leastPair 12 = .ok (.iload 4, 2) := by decide +kernel
theorem d_Gu_leastPair_14 : decode c_Gu_leastPair 14 = .ok (.invokestatic 25, 3) := by decide +kernel
theorem d_Gu_leastPair_17 : decode c_Gu_leastPair 17 = .ok (.iconst 2, 1) := by decide +kernel
theorem d_Gu_leastPair_18 : decode c_Gu_leastPair 18 = .ok (.if_icmp .ne 18, 3) := by decide +kernel
theorem d_Gu_leastPair_21 : decode c_Gu_leastPair 21 = .ok (.aload_n 0, 1) := by decide +kernel
theorem d_Gu_leastPair_22 : decode c_Gu_leastPair 22 = .ok (.iload 4, 2) := by decide +kernel
theorem d_Gu_leastPair_24 : decode c_Gu_leastPair 24 = .ok (.aload_n 1, 1) := by decide +kernel
theorem d_Gu_leastPair_25 : decode c_Gu_leastPair 25 = .ok (.iload_n 2, 1) := by decide +kernel
theorem d_Gu_leastPair_26 : decode c_Gu_leastPair 26 = .ok (.iload_n 3, 1) := by decide +kernel
theorem d_Gu_leastPair_27 : decode c_Gu_leastPair 27 = .ok (.invokestatic 15, 3) := by decide +kernel
theorem d_Gu_leastPair_30 : decode c_Gu_leastPair 30 = .ok (.ifCond .eq 6, 3) := by decide +kernel
theorem d_Gu_leastPair_33 : decode c_Gu_leastPair 33 = .ok (.iload 4, 2) := by decide +kernel
theorem d_Gu_leastPair_35 : decode c_Gu_leastPair 35 = .ok (.ireturn, 1) := by decide +kernel
theorem d_Gu_leastPair_36 : decode c_Gu_leastPair 36 = .ok (.iinc 4 1, 3) := by decide +kernel
theorem d_Gu_leastPair_39 : decode c_Gu_leastPair 39 = .ok (.goto (-36), 3) := by decide +kernel
theorem d_Gu_leastPair_42 : decode c_Gu_leastPair 42 = .ok (.bipush (-9), 2) := by decide +kernel
theorem d_Gu_leastPair_44 : decode c_Gu_leastPair 44 = .ok (.ireturn, 1) := by decide +kernel
theorem C_Gu_leastPair {M : MM} {n r c a m : Nat} {J : JT} {q : Nat → Int32} (hJ : CJ M n J) (hr : SH[r]? = some (0, 5)) (hn : NF r 0 = c) (hc : SH[c]? = some (1, 60)) (ha : a + m ≤ 60) (hq : ∀ t, t < m → M c (a + t) = q t) : AF y_Gu_leastPair c_Gu_leastPair 5 (some .int) 6 [vR 3, vR r, vI (i3 a), vI (i3 m)] (M) (some (vI (en (fstB (fun s => decide (pop 6 s = 2) && hmB J n s q m) (2 ^ n - 1))))) (M) := by
  have h6 := hJ.1
  have hM := hJ.2.1
  have hp := pow6 h6
  refine AF.of k_Gu_leastPair (lo := [some (vR 3), some (vR r), some (vI (i3 a)), some (vI (i3 m)), none]) rfl (Nat.le_of_ble_eq_true rfl) (fun X hX hR => ?_)
  refine v_iconst (pc := 0) (v := 1) hX (by decide) d_Gu_leastPair_0 ?_
  refine v_istore (pc := 1) (lo' := [some (vR _), some (vR _), some (vI _), some (vI _), some (vI _)]) hX (Nat.le_of_ble_eq_true rfl) rfl d_Gu_leastPair_1 ?_
  refine VW.cast (lo' := [some (vR 3), some (vR r), some (vI (i3 a)), some (vI (i3 m)), some (vI (i3 (0 + 1)))]) (st' := []) (G' := gM (M)) rfl rfl rfl ?_
  refine v_forI (X := X) (head := 3) (2 ^ n - 1) (fun kk => [some (vR 3), some (vR r), some (vI (i3 a)), some (vI (i3 m)), some (vI (i3 (kk + 1)))]) (fun kk => M) (fun kk => fstB (fun s => decide (pop 6 s = 2) && hmB J n s q m) kk = 0) (rfl) (fun k hk hIk ih3 => ?_) (fun hIk => ?_)
  · show VW X 3 [some (vR 3), some (vR r), some (vI (i3 a)), some (vI (i3 m)), some (vI (i3 (k + 1)))] [] (gM (M))
    have hIk : fstB (fun s => decide (pop 6 s = 2) && hmB J n s q m) k = 0 := hIk
    have hs : k + 1 < 64 := by omega
    refine v_iload (pc := 3) hX rfl d_Gu_leastPair_3 ?_
    refine v_aload_n (pc := 5) hX rfl d_Gu_leastPair_5 ?_
    refine f_callV (pc := 6) hX k_Sp_setsEnd ki_Sp_setsEnd kv_Sp_setsEnd ml_Gu_21 (C_Sp_setsEnd hJ) rfl rfl rfl rfl rfl (Nat.le_of_ble_eq_true rfl) (Nat.le_of_ble_eq_true rfl) (Nat.le_of_ble_eq_true rfl) d_Gu_leastPair_6 ?_
    refine v_icmp_ge (pc := 9) (tgt := 42) hX d_Gu_leastPair_9 rfl (fun h9 => False.elim (i3_ge_abs (k := k + 1) (n := 2 ^ n) (by omega) (by omega) h9)) (fun h9 => ?_)
    refine v_iload (pc := 12) hX rfl d_Gu_leastPair_12 ?_
    refine f_callS (pc := 14) hX k_jI_bitCount ks_jI_bitCount ml_Gu_25 (C_jI_bitCount) rfl rfl rfl (Nat.le_of_ble_eq_true rfl) (Nat.le_of_ble_eq_true rfl) (Nat.le_of_ble_eq_true rfl) d_Gu_leastPair_14 ?_
    refine v_iconst (pc := 17) (v := 2) hX (by decide) d_Gu_leastPair_17 ?_
    refine v_icmp_ne (pc := 18) (tgt := 36) hX d_Gu_leastPair_18 rfl (fun h18 => ?_) (fun h18 => ?_)
    · rw [jbc_pop _ hs] at h18
      have a1 : ¬ pop 6 (k + 1) = 2 := fun x => h18 (by rw [x]; rfl)
      have e : fstB (fun s => decide (pop 6 s = 2) && hmB J n s q m) (k + 1) = 0 := fstB_no hIk (by simp [a1])
      refine v_iinc (pc := 36) (lo' := [some (vR _), some (vR _), some (vI _), some (vI _), some (vI _)]) hX rfl rfl d_Gu_leastPair_36 ?_
      refine v_goto (pc := 39) (tgt := 3) hX d_Gu_leastPair_39 rfl ?_
      exact VW.cast (by rw [i3_succ (k + 1)]; rfl) rfl rfl (ih3 (e))
    · rw [jbc_pop _ hs] at h18
      have a1 : pop 6 (k + 1) = 2 := (i3_inj (by have := pop_lt hs; omega) (by decide)).mp (show i3 (pop 6 (k + 1)) = i3 2 from h18)
      refine v_aload_n (pc := 21) hX rfl d_Gu_leastPair_21 ?_
      refine v_iload (pc := 22) hX rfl d_Gu_leastPair_22 ?_
      refine v_aload_n (pc := 24) hX rfl d_Gu_leastPair_24 ?_
      refine v_iload_n (pc := 25) hX rfl d_Gu_leastPair_25 ?_
      refine v_iload_n (pc := 26) hX rfl d_Gu_leastPair_26 ?_
      refine f_callS (pc := 27) hX k_Gu_hasMarks ks_Gu_hasMarks ml_Gu_15 (C_Gu_hasMarks hJ hr hn hc ha hq (by assumption)) rfl rfl rfl (Nat.le_of_ble_eq_true rfl) (Nat.le_of_ble_eq_true rfl) (Nat.le_of_ble_eq_true rfl) d_Gu_leastPair_27 ?_
      refine f_ifeqB (pc := 30) (tgt := 36) hX d_Gu_leastPair_30 rfl (fun h30 => ?_) (fun h30 => ?_)
      · have e : fstB (fun s => decide (pop 6 s = 2) && hmB J n s q m) (k + 1) = 0 := fstB_no hIk (by simp [h30])
        refine v_iinc (pc := 36) (lo' := [some (vR _), some (vR _), some (vI _), some (vI _), some (vI _)]) hX rfl rfl d_Gu_leastPair_36 ?_
        refine v_goto (pc := 39) (tgt := 3) hX d_Gu_leastPair_39 rfl ?_
        exact VW.cast (by rw [i3_succ (k + 1)]; rfl) rfl rfl (ih3 (e))
      · refine v_iload (pc := 33) hX rfl d_Gu_leastPair_33 ?_
        exact f_iret (pc := 35) hX hR (by rw [fstB_hit hIk (by simp [a1, h30]) hk, en_p (Nat.succ_ne_zero k)]) (rfl) d_Gu_leastPair_35
  · show VW X 3 [some (vR 3), some (vR r), some (vI (i3 a)), some (vI (i3 m)), some (vI (i3 ((2 ^ n - 1) + 1)))] [] (gM (M))
    have hIk : fstB (fun s => decide (pop 6 s = 2) && hmB J n s q m) (2 ^ n - 1) = 0 := hIk
    refine v_iload (pc := 3) hX rfl d_Gu_leastPair_3 ?_
    refine v_aload_n (pc := 5) hX rfl d_Gu_leastPair_5 ?_
    refine f_callV (pc := 6) hX k_Sp_setsEnd ki_Sp_setsEnd kv_Sp_setsEnd ml_Gu_21 (C_Sp_setsEnd hJ) rfl rfl rfl rfl rfl (Nat.le_of_ble_eq_true rfl) (Nat.le_of_ble_eq_true rfl) (Nat.le_of_ble_eq_true rfl) d_Gu_leastPair_6 ?_
    refine v_icmp_ge (pc := 9) (tgt := 42) hX d_Gu_leastPair_9 rfl (fun h9 => ?_) (fun h9 => False.elim (absurd set_end h9))
    refine v_bipush (pc := 42) (v := (-9)) hX (by decide) d_Gu_leastPair_42 ?_
    exact f_iret (pc := 44) hX hR (by rw [hIk]; rfl) (rfl) d_Gu_leastPair_44
-- readings: of which jar, in which minute, how sure
def CR (M : MM) (n rc : Nat) (rj : Nat → Nat) (rt : JT) : Prop := rc ≤ 8 ∧ M 22 3 = i3 rc ∧ ∀ x, x < rc → rj x < n ∧ M 23 x = i3 (rj x) ∧ M 24 x = rt x 0 ∧ M 25 x = rt x 1
def soB (J : JT) (rc : Nat) (rj : Nat → Nat) (rt : JT) : Bool := allB (fun x => decide (mk J (rj x) (rt x 0) = rt x 1)) rc
theorem d_Re_take_0 : decode c_Re_take 0 = .ok (.aload_n 0, 1) := by decide +kernel
theorem d_Re_take_1 : decode c_Re_take 1 = .ok (.getfield 21, 3) := by decide +kernel
theorem d_Re_take_4 : decode c_Re_take 4 = .ok (.bipush 8, 2) := by decide +kernel
theorem d_Re_take_6 : decode c_Re_take 6 = .ok (.if_icmp .lt 6, 3) := by decide +kernel
theorem d_Re_take_9 : decode c_Re_take 9 = .ok (.bipush (-4), 2) := by decide +kernel
theorem d_Re_take_11 : decode c_Re_take 11 = .ok (.ireturn, 1) := by decide +kernel
theorem d_Re_take_12 : decode c_Re_take 12 = .ok (.aload_n 0, 1) := by decide +kernel
theorem d_Re_take_13 : decode c_Re_take 13 = .ok (.getfield 9, 3) := by decide +kernel
theorem d_Re_take_16 : decode c_Re_take 16 = .ok (.aload_n 0, 1) := by decide +kernel
theorem d_Re_take_17 : decode c_Re_take 17 = .ok (.getfield 21, 3) := by decide +kernel
theorem d_Re_take_20 : decode c_Re_take 20 = .ok (.iload_n 1, 1) := by decide +kernel
theorem d_Re_take_21 : decode c_Re_take 21 = .ok (.iastore, 1) := by decide +kernel
theorem d_Re_take_22 : decode c_Re_take 22 = .ok (.aload_n 0, 1) := by decide +kernel
theorem d_Re_take_23 : decode c_Re_take 23 = .ok (.getfield 15, 3) := by decide +kernel
theorem d_Re_take_26 : decode c_Re_take 26 = .ok (.aload_n 0, 1) := by decide +kernel
theorem d_Re_take_27 : decode c_Re_take 27 = .ok (.getfield 21, 3) := by decide +kernel
theorem d_Re_take_30 : decode c_Re_take 30 = .ok (.iload_n 2, 1) := by decide +kernel
theorem d_Re_take_31 : decode c_Re_take 31 = .ok (.iastore, 1) := by decide +kernel
theorem d_Re_take_32 : decode c_Re_take 32 = .ok (.aload_n 0, 1) := by decide +kernel
theorem d_Re_take_33 : decode c_Re_take 33 = .ok (.getfield 18, 3) := by decide +kernel
theorem d_Re_take_36 : decode c_Re_take 36 = .ok (.aload_n 0, 1) := by decide +kernel
theorem d_Re_take_37 : decode c_Re_take 37 = .ok (.getfield 21, 3) := by decide +kernel
theorem d_Re_take_40 : decode c_Re_take 40 = .ok (.iload_n 3, 1) := by decide +kernel
theorem d_Re_take_41 : decode c_Re_take 41 = .ok (.iastore, 1) := by decide +kernel
theorem d_Re_take_42 : decode c_Re_take 42 = .ok (.aload_n 0, 1) := by decide +kernel
theorem d_Re_take_43 : decode c_Re_take 43 = .ok (.dup, 1) := by decide +kernel
theorem d_Re_take_44 : decode c_Re_take 44 = .ok (.getfield 21, 3) := by decide +kernel
theorem d_Re_take_47 : decode c_Re_take 47 = .ok (.iconst 1, 1) := by decide +kernel
theorem d_Re_take_48 : decode c_Re_take 48 = .ok (.iadd, 1) := by decide +kernel
theorem d_Re_take_49 : decode c_Re_take 49 = .ok (.putfield 21, 3) := by decide +kernel
theorem d_Re_take_52 : decode c_Re_take 52 = .ok (.aload_n 0, 1) := by decide +kernel
theorem d_Re_take_53 : decode c_Re_take 53 = .ok (.getfield 21, 3) := by decide +kernel
theorem d_Re_take_56 : decode c_Re_take 56 = .ok (.iconst 1, 1) := by decide +kernel
theorem d_Re_take_57 : decode c_Re_take 57 = .ok (.isub, 1) := by decide +kernel
theorem d_Re_take_58 : decode c_Re_take 58 = .ok (.ireturn, 1) := by decide +kernel
theorem C_Re_take_full {M : MM} {a b v : Int32} (hM : M 22 3 = i3 8) : AF y_Re_take c_Re_take 4 (some .int) 1 [vR 22, vI a, vI b, vI v] (M) (some (vI (-4))) (M) := by
  refine AF.of k_Re_take (lo := [some (vR 22), some (vI a), some (vI b), some (vI v)]) rfl (Nat.le_of_ble_eq_true rfl) (fun X hX hR => ?_)
  refine v_aload_n (pc := 0) hX rfl d_Re_take_0 ?_
  refine g_getI (pc := 1) hX fl_Re_21 rfl rfl d_Re_take_1 ?_
  refine v_bipush (pc := 4) (v := 8) hX (by decide) d_Re_take_4 ?_
  refine v_icmp_lt (pc := 6) (tgt := 12) hX d_Re_take_6 rfl (fun h6 => False.elim (by rw [hM] at h6; revert h6; decide)) (fun h6 => ?_)
  refine v_bipush (pc := 9) (v := (-4)) hX (by decide) d_Re_take_9 ?_
  exact f_iret (pc := 11) hX hR (rfl) (rfl) d_Re_take_11
theorem C_Re_take {M : MM} {a b v : Int32} {rc : Nat} (hr : rc < 8) (hM : M 22 3 = i3 rc) : AF y_Re_take c_Re_take 4 (some .int) 1 [vR 22, vI a, vI b, vI v] (M) (some (vI (i3 rc))) (upM (upM (upM (upM M 23 rc a) 24 rc b) 25 rc v) 22 3 (i3 (rc + 1))) := by
  refine AF.of k_Re_take (lo := [some (vR 22), some (vI a), some (vI b), some (vI v)]) rfl (Nat.le_of_ble_eq_true rfl) (fun X hX hR => ?_)
  refine v_aload_n (pc := 0) hX rfl d_Re_take_0 ?_
  refine g_getI (pc := 1) hX fl_Re_21 rfl rfl d_Re_take_1 ?_
  refine v_bipush (pc := 4) (v := 8) hX (by decide) d_Re_take_4 ?_
  refine v_icmp_lt (pc := 6) (tgt := 12) hX d_Re_take_6 rfl (fun h6 => ?_) (fun h6 => False.elim (h6 (by rw [hM]; exact (i3_lt (b := 8) (by omega) (by decide)).mpr hr)))
  refine v_aload_n (pc := 12) hX rfl d_Re_take_12 ?_
  refine g_getR (pc := 13) hX fl_Re_9 rfl rfl nf_22_0 d_Re_take_13 ?_
  refine v_aload_n (pc := 16) hX rfl d_Re_take_16 ?_
  refine g_getI (pc := 17) hX fl_Re_21 rfl rfl d_Re_take_17 ?_
  rw [hM]
  refine v_iload_n (pc := 20) hX rfl d_Re_take_20 ?_
  refine g_iast (pc := 21) hX rfl (IX.of hr (by decide)) d_Re_take_21 ?_
  refine v_aload_n (pc := 22) hX rfl d_Re_take_22 ?_
  refine g_getR (pc := 23) hX fl_Re_15 rfl rfl nf_22_1 d_Re_take_23 ?_
  refine v_aload_n (pc := 26) hX rfl d_Re_take_26 ?_
  refine g_getI (pc := 27) hX fl_Re_21 rfl rfl d_Re_take_27 ?_
  rw [upM_ne (by omega), hM]
  refine v_iload_n (pc := 30) hX rfl d_Re_take_30 ?_
  refine g_iast (pc := 31) hX rfl (IX.of hr (by decide)) d_Re_take_31 ?_
  refine v_aload_n (pc := 32) hX rfl d_Re_take_32 ?_
  refine g_getR (pc := 33) hX fl_Re_18 rfl rfl nf_22_2 d_Re_take_33 ?_
  refine v_aload_n (pc := 36) hX rfl d_Re_take_36 ?_
  refine g_getI (pc := 37) hX fl_Re_21 rfl rfl d_Re_take_37 ?_
  rw [upM_ne (by omega), upM_ne (by omega), hM]
  refine v_iload_n (pc := 40) hX rfl d_Re_take_40 ?_
  refine g_iast (pc := 41) hX rfl (IX.of hr (by decide)) d_Re_take_41 ?_
  refine v_aload_n (pc := 42) hX rfl d_Re_take_42 ?_
  refine v_dup (pc := 43) hX rfl d_Re_take_43 ?_
  refine g_getI (pc := 44) hX fl_Re_21 rfl rfl d_Re_take_44 ?_
  rw [upM_ne (by omega), upM_ne (by omega), upM_ne (by omega), hM]
  refine v_iconst (pc := 47) (v := 1) hX (by decide) d_Re_take_47 ?_
  refine v_iadd (pc := 48) hX d_Re_take_48 ?_
  refine g_putI (pc := 49) hX fl_Re_21 rfl (finI rfl rfl) rfl rfl rfl d_Re_take_49 ?_
  refine v_aload_n (pc := 52) hX rfl d_Re_take_52 ?_
  refine g_getI (pc := 53) hX fl_Re_21 rfl rfl d_Re_take_53 ?_
  refine v_iconst (pc := 56) (v := 1) hX (by decide) d_Re_take_56 ?_
  refine v_isub (pc := 57) hX d_Re_take_57 ?_
  exact f_iret (pc := 58) hX hR (by rw [upM_same, Int32.add_sub_cancel]) (by rw [i3_succ]) d_Re_take_58
theorem d_Re_areSo_0 : decode c_Re_areSo 0 = .ok (.iconst 0, 1) := by decide +kernel
theorem d_Re_areSo_1 : decode c_Re_areSo 1 = .ok (.istore_n 2, 1) := by decide +kernel
theorem d_Re_areSo_2 : decode c_Re_areSo 2 = .ok (.iload_n 2, 1) := by decide +kernel
theorem d_Re_areSo_3 : decode c_Re_areSo 3 = .ok (.aload_n 0, 1) := by decide +kernel
theorem d_Re_areSo_4 : decode c_Re_areSo 4 = .ok (.getfield 21, 3) := by decide +kernel
theorem d_Re_areSo_7 : decode c_Re_areSo 7 = .ok (.if_icmp .ge 45, 3) := by decide +kernel
theorem d_Re_areSo_10 : decode c_Re_areSo 10 = .ok (.aload_n 1, 1) := by decide +kernel
theorem d_Re_areSo_11 : decode c_Re_areSo 11 = .ok (.aload_n 0, 1) := by decide +kernel
theorem d_Re_areSo_12 : decode c_Re_areSo 12 = .ok (.getfield 9, 3) := by decide +kernel
theorem d_Re_areSo_15 : decode c_Re_areSo 15 = .ok (.iload_n 2, 1) := by decide +kernel
theorem d_Re_areSo_16 : decode c_Re_areSo 16 = .ok (.iaload, 1) := by decide +kernel
theorem d_Re_areSo_17 : decode c_Re_areSo 17 = .ok (.invokevirtual 25, 3) := by decide +kernel
theorem d_Re_areSo_20 : decode c_Re_areSo 20 = .ok (.astore_n 3, 1) := by decide +kernel
theorem d_Re_areSo_21 : decode c_Re_areSo 21 = .ok (.aload_n 3, 1) := by decide +kernel
theorem d_Re_areSo_22 : decode c_Re_areSo 22 = .ok (.ifnull 22, 3) := by decide +kernel
theorem d_Re_areSo_25 : decode c_Re_areSo 25 = .ok (.aload_n 3, 1) := by decide +kernel
theorem d_Re_areSo_26 : decode c_Re_areSo 26 = .ok (.aload_n 0, 1) := by decide +kernel
theorem d_Re_areSo_27 : decode c_Re_areSo 27 = .ok (.getfield 15, 3) := by decide +kernel
theorem d_Re_areSo_30 : decode c_Re_areSo 30 = .ok (.iload_n 2, 1) := by decide +kernel
theorem d_Re_areSo_31 : decode c_Re_areSo 31 = .ok (.iaload, 1) := by decide +kernel
theorem d_Re_areSo_32 : decode c_Re_areSo 32 = .ok (.invokevirtual 31, 3) := by decide +kernel
theorem d_Re_areSo_35 : decode c_Re_areSo 35 = .ok (.aload_n 0, 1) := by decide +kernel
theorem d_Re_areSo_36 : decode c_Re_areSo 36 = .ok (.getfield 18, 3) := by decide +kernel
theorem d_Re_areSo_39 : decode c_Re_areSo 39 = .ok (.iload_n 2, 1) := by decide +kernel
theorem d_Re_areSo_40 : decode c_Re_areSo 40 = .ok (.iaload, 1) := by decide +kernel
theorem d_Re_areSo_41 : decode c_Re_areSo 41 = .ok (.if_icmp .eq 5, 3) := by decide +kernel
theorem d_Re_areSo_44 : decode c_Re_areSo 44 = .ok (.iconst 0, 1) := by decide +kernel
theorem d_Re_areSo_45 : decode c_Re_areSo 45 = .ok (.ireturn, 1) := by decide +kernel
theorem d_Re_areSo_46 : decode c_Re_areSo 46 = .ok (.iinc 2 1, 3) := by decide +kernel
theorem d_Re_areSo_49 : decode c_Re_areSo 49 = .ok (.goto (-47), 3) := by decide +kernel
theorem d_Re_areSo_52 : decode c_Re_areSo 52 = .ok (.iconst 1, 1) := by decide +kernel
theorem d_Re_areSo_53 : decode c_Re_areSo 53 = .ok (.ireturn, 1) := by decide +kernel
theorem C_Re_areSo {M : MM} {n rc : Nat} {J : JT} {rj : Nat → Nat} {rt : JT} (hJ : CJ M n J) (hR0 : CR M n rc rj rt) : AF y_Re_areSo c_Re_areSo 4 (some .boolean) 4 [vR 22, vR 3] (M) (some (vI (bI (soB J rc rj rt)))) (M) := by
  have h6 := hJ.1
  have hM := hJ.2.1
  have hc8 := hR0.1
  have hc3 := hR0.2.1
  refine AF.of k_Re_areSo (lo := [some (vR 22), some (vR 3), none, none]) rfl (Nat.le_of_ble_eq_true rfl) (fun X hX hR => ?_)
  refine v_iconst (pc := 0) (v := 0) hX (by decide) d_Re_areSo_0 ?_
  refine v_istore_n (pc := 1) (lo' := [some (vR _), some (vR _), some (vI _), none]) hX (Nat.le_of_ble_eq_true rfl) rfl d_Re_areSo_1 ?_
  refine VW.cast (lo' := [some (vR 22), some (vR 3), some (vI (i3 0)), none]) (st' := []) (G' := gM (M)) rfl rfl rfl ?_
  refine v_forI (X := X) (head := 2) (rc) (fun kk => [some (vR 22), some (vR 3), some (vI (i3 kk)), none]) (fun kk => M) (fun kk => allB (fun x => decide (mk J (rj x) (rt x 0) = rt x 1)) kk = true) (rfl) (fun k hk hIk ih2 => ?_) (fun hIk => ?_)
  · show VW X 2 [some (vR 22), some (vR 3), some (vI (i3 k)), none] [] (gM (M))
    have hIk : allB (fun x => decide (mk J (rj x) (rt x 0) = rt x 1)) k = true := hIk
    obtain ⟨hx1, hx2, hx3, hx4⟩ := hR0.2.2 k hk
    have hsj := sh_jar (rj k) (by omega)
    refine v_iload_n (pc := 2) hX rfl d_Re_areSo_2 ?_
    refine v_aload_n (pc := 3) hX rfl d_Re_areSo_3 ?_
    refine g_getI (pc := 4) hX fl_Re_21 rfl rfl d_Re_areSo_4 ?_
    refine v_icmp_ge (pc := 7) (tgt := 52) hX d_Re_areSo_7 rfl (fun h7 => False.elim (i3_ge_abs hk (by omega) (by rw [← hc3]; exact h7))) (fun h7 => ?_)
    refine v_aload_n (pc := 10) hX rfl d_Re_areSo_10 ?_
    refine v_aload_n (pc := 11) hX rfl d_Re_areSo_11 ?_
    refine g_getR (pc := 12) hX fl_Re_9 rfl rfl nf_22_0 d_Re_areSo_12 ?_
    refine v_iload_n (pc := 15) hX rfl d_Re_areSo_15 ?_
    refine g_iald (pc := 16) hX rfl (IX.of (n := 8) (by omega) (by decide)) d_Re_areSo_16 ?_
    rw [hx2]
    refine f_callV (pc := 17) hX k_Sp_jarAt ki_Sp_jarAt kv_Sp_jarAt ml_Re_25 (C_Sp_jarAt_in h6 hM hx1) rfl rfl rfl rfl rfl (Nat.le_of_ble_eq_true rfl) (Nat.le_of_ble_eq_true rfl) (Nat.le_of_ble_eq_true rfl) d_Re_areSo_17 ?_
    refine v_astore_n (pc := 20) (lo' := [some (vR _), some (vR _), some (vI _), some (vR _)]) hX (Nat.le_of_ble_eq_true rfl) rfl d_Re_areSo_20 ?_
    refine v_aload_n (pc := 21) hX rfl d_Re_areSo_21 ?_
    refine v_ifnull (pc := 22) (tgt := 44) hX d_Re_areSo_22 rfl (fun h22 => False.elim (by have := sh_two (by assumption); omega)) (fun h22 => ?_)
    refine v_aload_n (pc := 25) hX rfl d_Re_areSo_25 ?_
    refine v_aload_n (pc := 26) hX rfl d_Re_areSo_26 ?_
    refine g_getR (pc := 27) hX fl_Re_15 rfl rfl nf_22_1 d_Re_areSo_27 ?_
    refine v_iload_n (pc := 30) hX rfl d_Re_areSo_30 ?_
    refine g_iald (pc := 31) hX rfl (IX.of (n := 8) (by omega) (by decide)) d_Re_areSo_31 ?_
    rw [hx3]
    refine f_callV (pc := 32) hX k_Ja_markIn ki_Ja_markIn kv_Ja_markIn ml_Re_31 (C_Ja_markIn (by assumption)) (by assumption) rfl rfl rfl rfl (Nat.le_of_ble_eq_true rfl) (Nat.le_of_ble_eq_true rfl) (Nat.le_of_ble_eq_true rfl) d_Re_areSo_32 ?_
    refine v_aload_n (pc := 35) hX rfl d_Re_areSo_35 ?_
    refine g_getR (pc := 36) hX fl_Re_18 rfl rfl nf_22_2 d_Re_areSo_36 ?_
    refine v_iload_n (pc := 39) hX rfl d_Re_areSo_39 ?_
    refine g_iald (pc := 40) hX rfl (IX.of (n := 8) (by omega) (by decide)) d_Re_areSo_40 ?_
    rw [hx4, hJ.mk hx1]
    refine v_icmp_eq (pc := 41) (tgt := 46) hX d_Re_areSo_41 rfl (fun h41 => ?_) (fun h41 => ?_)
    · refine v_iinc (pc := 46) (lo' := [some (vR _), some (vR _), some (vI _), some (vR _)]) hX rfl rfl d_Re_areSo_46 ?_
      refine v_goto (pc := 49) (tgt := 2) hX d_Re_areSo_49 rfl ?_
      refine VW.fg [true, true, true, false] ?_
      exact VW.cast (by rw [i3_succ]; rfl) rfl rfl (ih2 (allB_s hIk (decide_eq_true h41)))
    · refine v_iconst (pc := 44) (v := 0) hX (by decide) d_Re_areSo_44 ?_
      exact f_zret (pc := 45) hX hR (bF (allB_no hk (decide_eq_false h41))) (rfl) d_Re_areSo_45
  · show VW X 2 [some (vR 22), some (vR 3), some (vI (i3 (rc))), none] [] (gM (M))
    have hIk : allB (fun x => decide (mk J (rj x) (rt x 0) = rt x 1)) (rc) = true := hIk
    refine v_iload_n (pc := 2) hX rfl d_Re_areSo_2 ?_
    refine v_aload_n (pc := 3) hX rfl d_Re_areSo_3 ?_
    refine g_getI (pc := 4) hX fl_Re_21 rfl rfl d_Re_areSo_4 ?_
    refine v_icmp_ge (pc := 7) (tgt := 52) hX d_Re_areSo_7 rfl (fun h7 => ?_) (fun h7 => False.elim (absurd (by rw [hc3]; exact Int32.le_refl _) h7))
    refine v_iconst (pc := 52) (v := 1) hX (by decide) d_Re_areSo_52 ?_
    exact f_zret (pc := 53) hX hR (bT hIk) (rfl) d_Re_areSo_53
end
section
/-! Whom to serve: most. -/
-- whom to serve
def okB (J B : JT) (j b : Nat) : Bool := decide (J j 4 ≤ B b 2) && decide (B b 0 ≤ mk J j (B b 1))
def dcr (l : Nat → Nat) (j : Nat) : Nat → Nat := fun i => if i = j then l i - 1 else l i
def bsN (f : Nat → Nat) (b0 : Nat) : Nat → Nat
  | 0 => b0
  | k + 1 => if bsN f b0 k < f k then f k else bsN f b0 k
def mostN (ok : Nat → Nat → Bool) (n nd : Nat) : Nat → (Nat → Nat) → Nat
  | 0, _ => 0
  | m + 1, l => bsN (fun j => if 0 < l j ∧ ok j (nd - (m + 1)) = true then 1 + mostN ok n nd m (dcr l j) else 0) (mostN ok n nd m l) n
theorem bsN_le {f : Nat → Nat} {b0 c : Nat} (h0 : b0 ≤ c) (hf : ∀ k, f k ≤ c) : ∀ k, bsN f b0 k ≤ c
  | 0 => h0
  | k + 1 => by
    have := bsN_le h0 hf k
    have := hf k
    unfold bsN
    split <;> omega
theorem bsN_mono {f : Nat → Nat} {b0 : Nat} : ∀ {k k' : Nat}, k ≤ k' → bsN f b0 k ≤ bsN f b0 k' := by
  intro k k' h
  induction k' with
  | zero => rw [show k = 0 by omega]; exact Nat.le_refl _
  | succ k' ih =>
    by_cases e : k = k' + 1
    · rw [e]; exact Nat.le_refl _
    · have := ih (by omega)
      have h2 : bsN f b0 k' ≤ bsN f b0 (k' + 1) := by
        conv => rhs; unfold bsN
        split <;> omega
      omega
theorem mostN_le (ok : Nat → Nat → Bool) (n nd : Nat) : ∀ m l, mostN ok n nd m l ≤ m
  | 0, _ => Nat.le_refl _
  | m + 1, l => by
    refine bsN_le (Nat.le_succ_of_le (mostN_le ok n nd m l)) (fun k => ?_) n
    split
    · have := mostN_le ok n nd m (dcr l k); omega
    · omega
theorem CJ.up {M : MM} {n r k : Nat} {J : JT} {x : Int32} (h : CJ M n J) (hr : 12 ≤ r) : CJ (upM M r k x) n J := by
  obtain ⟨h1, h2, h3⟩ := h
  exact ⟨h1, by rw [upM_ne (by omega)]; exact h2, fun j hj i hi => by rw [upM_ne (by omega)]; exact h3 j hj i hi⟩
theorem CB.up {M : MM} {n r k : Nat} {B : JT} {x : Int32} (h : CB M n B) (hr : 16 ≤ r) : CB (upM M r k x) n B := by
  obtain ⟨h1, h2, h3⟩ := h
  exact ⟨h1, by rw [upM_ne (by omega)]; exact h2, fun j hj i hi => by rw [upM_ne (by omega)]; exact h3 j hj i hi⟩
/-- the row of what is left -/
def LF (M : MM) (n : Nat) (l : Nat → Nat) : Prop := ∀ j, j < n → M 20 j = i3 (l j) ∧ l j ≤ 9
theorem LF.dcr {M : MM} {n k : Nat} {l : Nat → Nat} (h : LF M n l) : LF (upM M 20 k (i3 (l k - 1))) n (dcr l k) := by
  intro j hj
  obtain ⟨h1, h2⟩ := h j hj
  show _ = i3 (if j = k then l j - 1 else l j) ∧ (if j = k then l j - 1 else l j) ≤ 9
  by_cases e : j = k
  · subst e
    rw [if_pos rfl]
    exact ⟨upM_same, by omega⟩
  · rw [if_neg e, upM_ne (by omega)]
    exact ⟨h1, h2⟩
theorem i3_sub1 {k : Nat} (h : 0 < k) : i3 k - 1 = i3 (k - 1) := by
  generalize hd : k - 1 = d
  rw [show k = d + 1 by omega, i3_succ, Int32.add_sub_cancel]
theorem i3_back {k : Nat} (h : 0 < k) : i3 (k - 1) + 1 = i3 k := by rw [← i3_succ, show k - 1 + 1 = k by omega]
theorem i3_nb {m nd : Nat} (h : m + 1 ≤ nd) : i3 (nd - (m + 1)) + 1 = i3 (nd - m) := by rw [← i3_succ, show nd - (m + 1) + 1 = nd - m by omega]
theorem i3_dif {m nd : Nat} (h : m + 1 ≤ nd) : i3 nd - i3 (nd - (m + 1)) = i3 (m + 1) := by
  generalize hd : nd - (m + 1) = d
  rw [show nd = (m + 1) + d by omega, i3_add, Int32.add_sub_cancel]
theorem upM_back {M : MM} {r k : Nat} {x y : Int32} (h : M r k = y) : upM (upM M r k x) r k y = M := by
  funext a i
  unfold upM
  by_cases e : a = r ∧ i = k
  · rw [if_pos e, e.1, e.2, h]
  · rw [if_neg e, if_neg e]
theorem i3_max {a b : Nat} (ha : a < 1000) (hb : b < 1000) : (if i3 a < 1 + i3 b then 1 + i3 b else i3 a) = i3 (if a < 1 + b then 1 + b else a) := by
  rw [show (1 : Int32) + i3 b = i3 (1 + b) from (i3_add 1 b).symm]
  by_cases h : a < 1 + b
  · rw [if_pos h, if_pos ((i3_lt (by omega) (by omega)).mpr h)]
  · rw [if_neg h, if_neg (fun q => h ((i3_lt (by omega) (by omega)).mp q))]
theorem bs_no {f : Nat → Nat} {b0 k : Nat} (h : f k = 0) : bsN f b0 (k + 1) = bsN f b0 k := by
  conv => lhs; unfold bsN
  rw [h, if_neg (by omega)]
theorem bs_yes {f : Nat → Nat} {b0 k v : Nat} (h : f k = v) : bsN f b0 (k + 1) = if bsN f b0 k < v then v else bsN f b0 k := by subst h; rfl
theorem d_Se_most_0 : decode c_Se_most 0 = .ok (.iload_n 2, 1) := by decide +kernel
theorem d_Se_most_1 : decode c_Se_most 1 = .ok (.aload_n 0, 1) := by decide +kernel
theorem d_Se_most_2 : decode c_Se_most 2 = .ok (.getfield 29, 3) := by decide +kernel
theorem d_Se_most_5 : decode c_Se_most 5 = .ok (.invokestatic 35, 3) := by decide +kernel
theorem d_Se_most_8 : decode c_Se_most 8 = .ok (.ifCond .ne 5, 3) := by decide +kernel
theorem d_Se_most_11 : decode c_Se_most 11 = .ok (.iconst 0, 1) := by decide +kernel
theorem d_Se_most_12 : decode c_Se_most 12 = .ok (.ireturn, 1) := by decide +kernel
theorem d_Se_most_13 : decode c_Se_most 13 = .ok (.aload_n 0, 1) := by decide +kernel
theorem d_Se_most_14 : decode c_Se_most 14 = .ok (.getfield 55, 3) := by decide +kernel
theorem d_Se_most_17 : decode c_Se_most 17 = .ok (.iload_n 2, 1) := by decide +kernel
theorem d_Se_most_18 : decode c_Se_most 18 = .ok (.aaload, 1) := by decide +kernel
theorem d_Se_most_19 : decode c_Se_most 19 = .ok (.astore_n 3, 1) := by decide +kernel
theorem d_Se_most_20 : decode c_Se_most 20 = .ok (.aload_n 0, 1) := by decide +kernel
theorem d_Se_most_21 : decode c_Se_most 21 = .ok (.aload_n 1, 1) := by decide +kernel
theorem d_Se_most_22 : decode c_Se_most 22 = .ok (.iload_n 2, 1) := by decide +kernel
theorem d_Se_most_23 : decode c_Se_most 23 = .ok (.iconst 1, 1) := by decide +kernel
theorem d_Se_most_24 : decode c_Se_most 24 = .ok (.iadd, 1) := by decide +kernel
theorem d_Se_most_25 : decode c_Se_most 25 = .ok (.invokestatic 22, 3) := by decide +kernel
theorem d_Se_most_28 : decode c_Se_most 28 = .ok (.istore 4, 2) := by decide +kernel
theorem d_Se_most_30 : decode c_Se_most 30 = .ok (.iconst 0, 1) := by decide +kernel
theorem d_Se_most_31 : decode c_Se_most 31 = .ok (.istore 5, 2) := by decide +kernel
theorem d_Se_most_33 : decode c_Se_most 33 = .ok (.iload 5, 2) := by decide +kernel
theorem d_Se_most_35 : decode c_Se_most 35 = .ok (.aload_n 0, 1) := by decide +kernel
theorem d_Se_most_36 : decode c_Se_most 36 = .ok (.getfield 59, 3) := by decide +kernel
theorem d_Se_most_39 : decode c_Se_most 39 = .ok (.if_icmp .ge 90, 3) := by decide +kernel
theorem d_Se_most_42 : decode c_Se_most 42 = .ok (.iload 4, 2) := by decide +kernel
theorem d_Se_most_44 : decode c_Se_most 44 = .ok (.aload_n 0, 1) := by decide +kernel
theorem d_Se_most_45 : decode c_Se_most 45 = .ok (.getfield 29, 3) := by decide +kernel
theorem d_Se_most_48 : decode c_Se_most 48 = .ok (.iload_n 2, 1) := by decide +kernel
theorem d_Se_most_49 : decode c_Se_most 49 = .ok (.isub, 1) := by decide +kernel
theorem d_Se_most_50 : decode c_Se_most 50 = .ok (.if_icmp .ge 79, 3) := by decide +kernel
theorem d_Se_most_53 : decode c_Se_most 53 = .ok (.aload_n 0, 1) := by decide +kernel
theorem d_Se_most_54 : decode c_Se_most 54 = .ok (.getfield 48, 3) := by decide +kernel
theorem d_Se_most_57 : decode c_Se_most 57 = .ok (.iload 5, 2) := by decide +kernel
theorem d_Se_most_59 : decode c_Se_most 59 = .ok (.aaload, 1) := by decide +kernel
theorem d_Se_most_60 : decode c_Se_most 60 = .ok (.astore 6, 2) := by decide +kernel
theorem d_Se_most_62 : decode c_Se_most 62 = .ok (.aload_n 1, 1) := by decide +kernel
theorem d_Se_most_63 : decode c_Se_most 63 = .ok (.iload 5, 2) := by decide +kernel
theorem d_Se_most_65 : decode c_Se_most 65 = .ok (.iaload, 1) := by decide +kernel
theorem d_Se_most_66 : decode c_Se_most 66 = .ok (.ifCond .le 57, 3) := by decide +kernel
theorem d_Se_most_69 : decode c_Se_most 69 = .ok (.aload 6, 2) := by decide +kernel
theorem d_Se_most_71 : decode c_Se_most 71 = .ok (.getfield 39, 3) := by decide +kernel
theorem d_Se_most_74 : decode c_Se_most 74 = .ok (.aload_n 3, 1) := by decide +kernel
theorem d_Se_most_75 : decode c_Se_most 75 = .ok (.getfield 62, 3) := by decide +kernel
theorem d_Se_most_78 : decode c_Se_most 78 = .ok (.if_icmp .gt 45, 3) := by decide +kernel
theorem d_Se_most_81 : decode c_Se_most 81 = .ok (.aload_n 3, 1) := by decide +kernel
theorem d_Se_most_82 : decode c_Se_most 82 = .ok (.aload 6, 2) := by decide +kernel
theorem d_Se_most_84 : decode c_Se_most 84 = .ok (.invokevirtual 67, 3) := by decide +kernel
theorem d_Se_most_87 : decode c_Se_most 87 = .ok (.ifCond .eq 36, 3) := by decide +kernel
theorem d_Se_most_90 : decode c_Se_most 90 = .ok (.aload_n 1, 1) := by decide +kernel
theorem d_Se_most_91 : decode c_Se_most 91 = .ok (.iload 5, 2) := by decide +kernel
theorem d_Se_most_93 : decode c_Se_most 93 = .ok (.dup2, 1) := by decide +kernel
theorem d_Se_most_94 : decode c_Se_most 94 = .ok (.iaload, 1) := by decide +kernel
theorem d_Se_most_95 : decode c_Se_most 95 = .ok (.iconst 1, 1) := by decide +kernel
theorem d_Se_most_96 : decode c_Se_most 96 = .ok (.isub, 1) := by decide +kernel
theorem d_Se_most_97 : decode c_Se_most 97 = .ok (.iastore, 1) := by decide +kernel
theorem d_Se_most_98 : decode c_Se_most 98 = .ok (.iload 4, 2) := by decide +kernel
theorem d_Se_most_100 : decode c_Se_most 100 = .ok (.iconst 1, 1) := by decide +kernel
theorem d_Se_most_101 : decode c_Se_most 101 = .ok (.aload_n 0, 1) := by decide +kernel
theorem d_Se_most_102 : decode c_Se_most 102 = .ok (.aload_n 1, 1) := by decide +kernel
theorem d_Se_most_103 : decode c_Se_most 103 = .ok (.iload_n 2, 1) := by decide +kernel
theorem d_Se_most_104 : decode c_Se_most 104 = .ok (.iconst 1, 1) := by decide +kernel
theorem d_Se_most_105 : decode c_Se_most 105 = .ok (.iadd, 1) := by decide +kernel
theorem d_Se_most_106 : decode c_Se_most 106 = .ok (.invokestatic 22, 3) := by decide +kernel
theorem d_Se_most_109 : decode c_Se_most 109 = .ok (.iadd, 1) := by decide +kernel
theorem d_Se_most_110 : decode c_Se_most 110 = .ok (.invokestatic 71, 3) := by decide +kernel
theorem d_Se_most_113 : decode c_Se_most 113 = .ok (.istore 4, 2) := by decide +kernel
theorem d_Se_most_115 : decode c_Se_most 115 = .ok (.aload_n 1, 1) := by decide +kernel
theorem d_Se_most_116 : decode c_Se_most 116 = .ok (.iload 5, 2) := by decide +kernel
theorem d_Se_most_118 : decode c_Se_most 118 = .ok (.dup2, 1) := by decide +kernel
theorem d_Se_most_119 : decode c_Se_most 119 = .ok (.iaload, 1) := by decide +kernel
theorem d_Se_most_120 : decode c_Se_most 120 = .ok (.iconst 1, 1) := by decide +kernel
theorem d_Se_most_121 : decode c_Se_most 121 = .ok (.iadd, 1) := by decide +kernel
theorem d_Se_most_122 : decode c_Se_most 122 = .ok (.iastore, 1) := by decide +kernel
theorem d_Se_most_123 : decode c_Se_most 123 = .ok (.iinc 5 1, 3) := by decide +kernel
theorem d_Se_most_126 : decode c_Se_most 126 = .ok (.goto (-93), 3) := by decide +kernel
theorem d_Se_most_129 : decode c_Se_most 129 = .ok (.iload 4, 2) := by decide +kernel
theorem d_Se_most_131 : decode c_Se_most 131 = .ok (.ireturn, 1) := by decide +kernel
theorem C_Se_most_0 {M : MM} {nd : Nat} (h4 : nd ≤ 4) (hM : M 3 3 = i3 nd) : AF y_Se_most c_Se_most 7 (some .int) (0 + 6) [vR 3, vR 20, vI (i3 (nd - 0))] (M) (some (vI (i3 0))) (M) := by
  refine AF.of k_Se_most (lo := [some (vR 3), some (vR 20), some (vI (i3 (nd - 0))), none, none, none, none]) rfl (Nat.le_of_ble_eq_true rfl) (fun X hX hR => ?_)
  refine v_iload_n (pc := 0) hX rfl d_Se_most_0 ?_
  refine v_aload_n (pc := 1) hX rfl d_Se_most_1 ?_
  refine g_getI (pc := 2) hX fl_Se_29 rfl rfl d_Se_most_2 ?_
  refine f_callN (pc := 5) hX k_LJ_isBelow ks_LJ_isBelow (by decide) (C_LJ_isBelow) rfl rfl rfl (by omega) (Nat.le_of_ble_eq_true rfl) (Nat.le_of_ble_eq_true rfl) d_Se_most_5 ?_
  refine f_ifneB (pc := 8) (tgt := 13) hX d_Se_most_8 rfl (fun h8 => False.elim (absurd h8 (by rw [hM, i3_int (by omega), show rg (i3 (nd - 0)) 0 ((nd : Int) - 1) = false from rg_false.mpr (by rw [i3_int (by omega)]; omega)]; decide))) (fun h8 => ?_)
  refine v_iconst (pc := 11) (v := 0) hX (by decide) d_Se_most_11 ?_
  exact f_iret (pc := 12) hX hR (rfl) (rfl) d_Se_most_12
set_option maxHeartbeats 4000000 in
theorem C_Se_most_s {M : MM} {n nd m : Nat} {J B : JT} {l : Nat → Nat} (hm : m + 1 ≤ nd) (hJ : CJ M n J) (hB : CB M nd B) (hL : LF M n l) (ih : ∀ (M : MM) (l : Nat → Nat), CJ M n J → CB M nd B → LF M n l → AF y_Se_most c_Se_most 7 (some .int) (m + 6) [vR 3, vR 20, vI (i3 (nd - m))] M (some (vI (i3 (mostN (okB J B) n nd m l)))) M) : AF y_Se_most c_Se_most 7 (some .int) (m + 1 + 6) [vR 3, vR 20, vI (i3 (nd - (m + 1)))] (M) (some (vI (i3 (mostN (okB J B) n nd (m + 1) l)))) (M) := by
  have h6 := hJ.1
  have hM := hJ.2.1
  have h4 := hB.1
  have hM3 := hB.2.1
  have hb4 : nd - (m + 1) < nd := by omega
  have hsd := sh_dec (nd - (m + 1)) (by omega)
  have hml : ∀ l, mostN (okB J B) n nd m l ≤ m := mostN_le (okB J B) n nd m
  have hfl : ∀ k, (fun j => if 0 < l j ∧ okB J B j (nd - (m + 1)) = true then 1 + mostN (okB J B) n nd m (dcr l j) else 0) k ≤ m + 1 := fun k => by
    have := hml (dcr l k)
    show (if 0 < l k ∧ okB J B k (nd - (m + 1)) = true then 1 + mostN (okB J B) n nd m (dcr l k) else 0) ≤ m + 1
    split <;> omega
  have hbl : ∀ k, bsN (fun j => if 0 < l j ∧ okB J B j (nd - (m + 1)) = true then 1 + mostN (okB J B) n nd m (dcr l j) else 0) (mostN (okB J B) n nd m l) k ≤ m + 1 := bsN_le (Nat.le_succ_of_le (hml l)) hfl
  refine AF.of k_Se_most (lo := [some (vR 3), some (vR 20), some (vI (i3 (nd - (m + 1)))), none, none, none, none]) rfl (Nat.le_of_ble_eq_true rfl) (fun X hX hR => ?_)
  refine v_iload_n (pc := 0) hX rfl d_Se_most_0 ?_
  refine v_aload_n (pc := 1) hX rfl d_Se_most_1 ?_
  refine g_getI (pc := 2) hX fl_Se_29 rfl rfl d_Se_most_2 ?_
  refine f_callN (pc := 5) hX k_LJ_isBelow ks_LJ_isBelow (by decide) (C_LJ_isBelow) rfl rfl rfl (by omega) (Nat.le_of_ble_eq_true rfl) (Nat.le_of_ble_eq_true rfl) d_Se_most_5 ?_
  refine f_ifneB (pc := 8) (tgt := 13) hX d_Se_most_8 rfl (fun h8 => ?_) (fun h8 => False.elim (absurd h8 (by rw [hM3, i3_int (by omega), rg_i3 hb4 (by omega)]; decide)))
  refine v_aload_n (pc := 13) hX rfl d_Se_most_13 ?_
  refine g_getR (pc := 14) hX fl_Se_55 rfl rfl nf_3_1 d_Se_most_14 ?_
  refine v_iload_n (pc := 17) hX rfl d_Se_most_17 ?_
  refine g_aald (pc := 18) (c := 0) hX (by decide) (by decide) rfl (IX.of (by omega) (by decide)) (nf_dec _ (by omega)) d_Se_most_18 ?_
  refine v_astore_n (pc := 19) (lo' := [some (vR _), some (vR _), some (vI _), some (vR _), none, none, none]) hX (Nat.le_of_ble_eq_true rfl) rfl d_Se_most_19 ?_
  refine v_aload_n (pc := 20) hX rfl d_Se_most_20 ?_
  refine v_aload_n (pc := 21) hX rfl d_Se_most_21 ?_
  refine v_iload_n (pc := 22) hX rfl d_Se_most_22 ?_
  refine v_iconst (pc := 23) (v := 1) hX (by decide) d_Se_most_23 ?_
  refine v_iadd (pc := 24) hX d_Se_most_24 ?_
  rw [i3_nb hm]
  refine f_callS (pc := 25) hX k_Se_most ks_Se_most ml_Se_22 (ih M l hJ hB hL) rfl rfl rfl (by omega) (Nat.le_of_ble_eq_true rfl) (Nat.le_of_ble_eq_true rfl) d_Se_most_25 ?_
  refine v_istore (pc := 28) (lo' := [some (vR _), some (vR _), some (vI _), some (vR _), some (vI _), none, none]) hX (Nat.le_of_ble_eq_true rfl) rfl d_Se_most_28 ?_
  refine v_iconst (pc := 30) (v := 0) hX (by decide) d_Se_most_30 ?_
  refine v_istore (pc := 31) (lo' := [some (vR _), some (vR _), some (vI _), some (vR _), some (vI _), some (vI _), none]) hX (Nat.le_of_ble_eq_true rfl) rfl d_Se_most_31 ?_
  refine VW.cast (lo' := [some (vR 3), some (vR 20), some (vI (i3 (nd - (m + 1)))), some (vR (12 + (nd - (m + 1)))), some (vI (i3 (bsN (fun j => if 0 < l j ∧ okB J B j (nd - (m + 1)) = true then 1 + mostN (okB J B) n nd m (dcr l j) else 0) (mostN (okB J B) n nd m l) 0))), some (vI (i3 0)), none]) (st' := []) (G' := gM (M)) rfl rfl rfl ?_
  refine v_for (X := X) (head := 33) (n) (fun kk => [some (vR 3), some (vR 20), some (vI (i3 (nd - (m + 1)))), some (vR (12 + (nd - (m + 1)))), some (vI (i3 (bsN (fun j => if 0 < l j ∧ okB J B j (nd - (m + 1)) = true then 1 + mostN (okB J B) n nd m (dcr l j) else 0) (mostN (okB J B) n nd m l) kk))), some (vI (i3 kk)), none]) (fun kk => M) (fun k hk ih33 => ?_) ?_
  · show VW X 33 [some (vR 3), some (vR 20), some (vI (i3 (nd - (m + 1)))), some (vR (12 + (nd - (m + 1)))), some (vI (i3 (bsN (fun j => if 0 < l j ∧ okB J B j (nd - (m + 1)) = true then 1 + mostN (okB J B) n nd m (dcr l j) else 0) (mostN (okB J B) n nd m l) k))), some (vI (i3 k)), none] [] (gM (M))
    have hsj := sh_jar k (by omega)
    obtain ⟨hl1, hl2⟩ := hL k hk
    have hbk := hbl k
    refine v_iload (pc := 33) hX rfl d_Se_most_33 ?_
    refine v_aload_n (pc := 35) hX rfl d_Se_most_35 ?_
    refine g_getI (pc := 36) hX fl_Se_59 rfl rfl d_Se_most_36 ?_
    refine v_icmp_ge (pc := 39) (tgt := 129) hX d_Se_most_39 rfl (fun h39 => False.elim (i3_ge_abs hk (by omega) (by rw [← hM]; exact h39))) (fun h39 => ?_)
    refine v_iload (pc := 42) hX rfl d_Se_most_42 ?_
    refine v_aload_n (pc := 44) hX rfl d_Se_most_44 ?_
    refine g_getI (pc := 45) hX fl_Se_29 rfl rfl d_Se_most_45 ?_
    refine v_iload_n (pc := 48) hX rfl d_Se_most_48 ?_
    refine v_isub (pc := 49) hX d_Se_most_49 ?_
    rw [hM3, i3_dif hm]
    refine v_icmp_ge (pc := 50) (tgt := 129) hX d_Se_most_50 rfl (fun h50 => ?_) (fun h50 => ?_)
    · refine v_iload (pc := 129) hX rfl d_Se_most_129 ?_
      exact f_iret (pc := 131) hX hR (by have e1 := (i3_le (by omega) (by omega)).mp h50; have e2 : bsN (fun j => if 0 < l j ∧ okB J B j (nd - (m + 1)) = true then 1 + mostN (okB J B) n nd m (dcr l j) else 0) (mostN (okB J B) n nd m l) k ≤ bsN (fun j => if 0 < l j ∧ okB J B j (nd - (m + 1)) = true then 1 + mostN (okB J B) n nd m (dcr l j) else 0) (mostN (okB J B) n nd m l) n := bsN_mono (by omega); have e3 := hbl n; have e4 : bsN (fun j => if 0 < l j ∧ okB J B j (nd - (m + 1)) = true then 1 + mostN (okB J B) n nd m (dcr l j) else 0) (mostN (okB J B) n nd m l) k = mostN (okB J B) n nd (m + 1) l := (by show _ = bsN (fun j => if 0 < l j ∧ okB J B j (nd - (m + 1)) = true then 1 + mostN (okB J B) n nd m (dcr l j) else 0) (mostN (okB J B) n nd m l) n; omega); rw [e4]) (rfl) d_Se_most_131
    · refine v_aload_n (pc := 53) hX rfl d_Se_most_53 ?_
      refine g_getR (pc := 54) hX fl_Se_48 rfl rfl nf_3_0 d_Se_most_54 ?_
      refine v_iload (pc := 57) hX rfl d_Se_most_57 ?_
      refine g_aald (pc := 59) (c := 1) hX (by decide) (by decide) rfl (IX.of (by omega) (by decide)) (nf_jar k (by omega)) d_Se_most_59 ?_
      refine v_astore (pc := 60) (lo' := [some (vR _), some (vR _), some (vI _), some (vR _), some (vI _), some (vI _), some (vR _)]) hX (Nat.le_of_ble_eq_true rfl) rfl d_Se_most_60 ?_
      refine v_aload_n (pc := 62) hX rfl d_Se_most_62 ?_
      refine v_iload (pc := 63) hX rfl d_Se_most_63 ?_
      refine g_iald (pc := 65) hX rfl (IX.of (n := 6) (by omega) (by decide)) d_Se_most_65 ?_
      rw [hl1]
      refine v_if_le (pc := 66) (tgt := 123) hX d_Se_most_66 rfl (fun h66 => ?_) (fun h66 => ?_)
      · have e : bsN (fun j => if 0 < l j ∧ okB J B j (nd - (m + 1)) = true then 1 + mostN (okB J B) n nd m (dcr l j) else 0) (mostN (okB J B) n nd m l) (k + 1) = bsN (fun j => if 0 < l j ∧ okB J B j (nd - (m + 1)) = true then 1 + mostN (okB J B) n nd m (dcr l j) else 0) (mostN (okB J B) n nd m l) k := bs_no (by have := (i3_le (b := 0) (by omega) (by decide)).mp h66; (show (if 0 < l k ∧ okB J B k (nd - (m + 1)) = true then 1 + mostN (okB J B) n nd m (dcr l k) else 0) = 0); rw [if_neg (by omega)])
        refine v_iinc (pc := 123) (lo' := [some (vR _), some (vR _), some (vI _), some (vR _), some (vI _), some (vI _), some (vR _)]) hX rfl rfl d_Se_most_123 ?_
        refine v_goto (pc := 126) (tgt := 33) hX d_Se_most_126 rfl ?_
        refine VW.fg [true, true, true, true, true, true, false] ?_
        exact VW.cast (by rw [e, i3_succ]; rfl) rfl rfl ih33
      · have hlp : 0 < l k := Nat.pos_of_ne_zero (fun q => h66 (by rw [q]; exact Int32.le_refl _))
        refine v_aload (pc := 69) hX rfl d_Se_most_69 ?_
        refine g_getI (pc := 71) hX fl_Se_39 rfl (by assumption) d_Se_most_71 ?_
        refine v_aload_n (pc := 74) hX rfl d_Se_most_74 ?_
        refine g_getI (pc := 75) hX fl_Se_62 rfl (by assumption) d_Se_most_75 ?_
        rw [hJ.2.2 k hk 4 (by decide), hB.2.2 _ hb4 2 (by decide)]
        refine v_icmp_gt (pc := 78) (tgt := 123) hX d_Se_most_78 rfl (fun h78 => ?_) (fun h78 => ?_)
        · have e : bsN (fun j => if 0 < l j ∧ okB J B j (nd - (m + 1)) = true then 1 + mostN (okB J B) n nd m (dcr l j) else 0) (mostN (okB J B) n nd m l) (k + 1) = bsN (fun j => if 0 < l j ∧ okB J B j (nd - (m + 1)) = true then 1 + mostN (okB J B) n nd m (dcr l j) else 0) (mostN (okB J B) n nd m l) k := bs_no (by (show (if 0 < l k ∧ okB J B k (nd - (m + 1)) = true then 1 + mostN (okB J B) n nd m (dcr l k) else 0) = 0); rw [if_neg (fun q => by have := q.2; unfold okB at this; simp only [Bool.and_eq_true, decide_eq_true_eq] at this; exact absurd this.1 (Int32.not_le.mpr h78))])
          refine v_iinc (pc := 123) (lo' := [some (vR _), some (vR _), some (vI _), some (vR _), some (vI _), some (vI _), some (vR _)]) hX rfl rfl d_Se_most_123 ?_
          refine v_goto (pc := 126) (tgt := 33) hX d_Se_most_126 rfl ?_
          refine VW.fg [true, true, true, true, true, true, false] ?_
          exact VW.cast (by rw [e, i3_succ]; rfl) rfl rfl ih33
        · refine v_aload_n (pc := 81) hX rfl d_Se_most_81 ?_
          refine v_aload (pc := 82) hX rfl d_Se_most_82 ?_
          refine f_callV (pc := 84) hX k_De_decidesBy ki_De_decidesBy kv_De_decidesBy ml_Se_67 (C_De_decidesBy (by assumption) (by assumption)) (by assumption) rfl rfl rfl rfl (by omega) (Nat.le_of_ble_eq_true rfl) (Nat.le_of_ble_eq_true rfl) d_Se_most_84 ?_
          rw [hJ.mk hk, hB.2.2 _ hb4 0 (by decide), hB.2.2 _ hb4 1 (by decide)]
          refine f_ifeqB (pc := 87) (tgt := 123) hX d_Se_most_87 rfl (fun h87 => ?_) (fun h87 => ?_)
          · have e : bsN (fun j => if 0 < l j ∧ okB J B j (nd - (m + 1)) = true then 1 + mostN (okB J B) n nd m (dcr l j) else 0) (mostN (okB J B) n nd m l) (k + 1) = bsN (fun j => if 0 < l j ∧ okB J B j (nd - (m + 1)) = true then 1 + mostN (okB J B) n nd m (dcr l j) else 0) (mostN (okB J B) n nd m l) k := bs_no (by (show (if 0 < l k ∧ okB J B k (nd - (m + 1)) = true then 1 + mostN (okB J B) n nd m (dcr l k) else 0) = 0); rw [if_neg (fun q => by have := q.2; unfold okB at this; rw [h87] at this; simp at this)])
            refine v_iinc (pc := 123) (lo' := [some (vR _), some (vR _), some (vI _), some (vR _), some (vI _), some (vI _), some (vR _)]) hX rfl rfl d_Se_most_123 ?_
            refine v_goto (pc := 126) (tgt := 33) hX d_Se_most_126 rfl ?_
            refine VW.fg [true, true, true, true, true, true, false] ?_
            exact VW.cast (by rw [e, i3_succ]; rfl) rfl rfl ih33
          · have hok : okB J B k (nd - (m + 1)) = true := by unfold okB; rw [h87, decide_eq_true (Int32.not_lt.mp h78)]; rfl
            have e : bsN (fun j => if 0 < l j ∧ okB J B j (nd - (m + 1)) = true then 1 + mostN (okB J B) n nd m (dcr l j) else 0) (mostN (okB J B) n nd m l) (k + 1) = if bsN (fun j => if 0 < l j ∧ okB J B j (nd - (m + 1)) = true then 1 + mostN (okB J B) n nd m (dcr l j) else 0) (mostN (okB J B) n nd m l) k < 1 + mostN (okB J B) n nd m (dcr l k) then 1 + mostN (okB J B) n nd m (dcr l k) else bsN (fun j => if 0 < l j ∧ okB J B j (nd - (m + 1)) = true then 1 + mostN (okB J B) n nd m (dcr l j) else 0) (mostN (okB J B) n nd m l) k := by
              exact bs_yes (if_pos ⟨hlp, hok⟩)
            refine v_aload_n (pc := 90) hX rfl d_Se_most_90 ?_
            refine v_iload (pc := 91) hX rfl d_Se_most_91 ?_
            refine v_dup2 (pc := 93) hX rfl rfl d_Se_most_93 ?_
            refine g_iald (pc := 94) hX rfl (IX.of (n := 6) (by omega) (by decide)) d_Se_most_94 ?_
            refine v_iconst (pc := 95) (v := 1) hX (by decide) d_Se_most_95 ?_
            refine v_isub (pc := 96) hX d_Se_most_96 ?_
            rw [hl1, i3_sub1 hlp]
            refine g_iast (pc := 97) hX rfl (IX.of (n := 6) (by omega) (by decide)) d_Se_most_97 ?_
            refine v_iload (pc := 98) hX rfl d_Se_most_98 ?_
            refine v_iconst (pc := 100) (v := 1) hX (by decide) d_Se_most_100 ?_
            refine v_aload_n (pc := 101) hX rfl d_Se_most_101 ?_
            refine v_aload_n (pc := 102) hX rfl d_Se_most_102 ?_
            refine v_iload_n (pc := 103) hX rfl d_Se_most_103 ?_
            refine v_iconst (pc := 104) (v := 1) hX (by decide) d_Se_most_104 ?_
            refine v_iadd (pc := 105) hX d_Se_most_105 ?_
            rw [i3_nb hm]
            refine f_callS (pc := 106) hX k_Se_most ks_Se_most ml_Se_22 (ih _ _ (hJ.up (by decide)) (hB.up (by decide)) hL.dcr) rfl rfl rfl (by omega) (Nat.le_of_ble_eq_true rfl) (Nat.le_of_ble_eq_true rfl) d_Se_most_106 ?_
            refine v_iadd (pc := 109) hX d_Se_most_109 ?_
            refine g_max (pc := 110) hX ml_Se_71 rfl (by omega) (Nat.le_of_ble_eq_true rfl) d_Se_most_110 ?_
            rw [i3_max (by omega) (by have := hml (dcr l k); omega)]
            refine v_istore (pc := 113) (lo' := [some (vR _), some (vR _), some (vI _), some (vR _), some (vI _), some (vI _), some (vR _)]) hX (Nat.le_of_ble_eq_true rfl) rfl d_Se_most_113 ?_
            refine v_aload_n (pc := 115) hX rfl d_Se_most_115 ?_
            refine v_iload (pc := 116) hX rfl d_Se_most_116 ?_
            refine v_dup2 (pc := 118) hX rfl rfl d_Se_most_118 ?_
            refine g_iald (pc := 119) hX rfl (IX.of (n := 6) (by omega) (by decide)) d_Se_most_119 ?_
            refine v_iconst (pc := 120) (v := 1) hX (by decide) d_Se_most_120 ?_
            refine v_iadd (pc := 121) hX d_Se_most_121 ?_
            rw [upM_same, i3_back hlp]
            refine g_iast (pc := 122) hX rfl (IX.of (n := 6) (by omega) (by decide)) d_Se_most_122 ?_
            rw [upM_back hl1]
            refine v_iinc (pc := 123) (lo' := [some (vR _), some (vR _), some (vI _), some (vR _), some (vI _), some (vI _), some (vR _)]) hX rfl rfl d_Se_most_123 ?_
            refine v_goto (pc := 126) (tgt := 33) hX d_Se_most_126 rfl ?_
            refine VW.fg [true, true, true, true, true, true, false] ?_
            exact VW.cast (by rw [e, i3_succ]; rfl) rfl rfl ih33
  · show VW X 33 [some (vR 3), some (vR 20), some (vI (i3 (nd - (m + 1)))), some (vR (12 + (nd - (m + 1)))), some (vI (i3 (bsN (fun j => if 0 < l j ∧ okB J B j (nd - (m + 1)) = true then 1 + mostN (okB J B) n nd m (dcr l j) else 0) (mostN (okB J B) n nd m l) (n)))), some (vI (i3 (n))), none] [] (gM (M))
    refine v_iload (pc := 33) hX rfl d_Se_most_33 ?_
    refine v_aload_n (pc := 35) hX rfl d_Se_most_35 ?_
    refine g_getI (pc := 36) hX fl_Se_59 rfl rfl d_Se_most_36 ?_
    refine v_icmp_ge (pc := 39) (tgt := 129) hX d_Se_most_39 rfl (fun h39 => ?_) (fun h39 => False.elim (absurd (by rw [hM]; exact Int32.le_refl _) h39))
    refine v_iload (pc := 129) hX rfl d_Se_most_129 ?_
    exact f_iret (pc := 131) hX hR (rfl) (rfl) d_Se_most_131
theorem C_Se_most {n nd : Nat} {J B : JT} : ∀ (m : Nat) (M : MM) (l : Nat → Nat), m ≤ nd → CJ M n J → CB M nd B → LF M n l → AF y_Se_most c_Se_most 7 (some .int) (m + 6) [vR 3, vR 20, vI (i3 (nd - m))] M (some (vI (i3 (mostN (okB J B) n nd m l)))) M
  | 0, M, l, _, _, hB, _ => C_Se_most_0 hB.1 hB.2.1
  | m + 1, M, l, hm, hJ, hB, hL => C_Se_most_s hm hJ hB hL (fun M l hJ hB hL => C_Se_most m M l (by omega) hJ hB hL)
end
section
/-! Whom to serve: choosing. -/
def bgM (M : MM) (k : Nat) : MM := fun a i => if a = 20 ∧ i < k then M (6 + i) 3 else M a i
theorem bgM_0 (M : MM) : bgM M 0 = M := by
  funext a i
  simp [bgM]
theorem bgM_s (M : MM) {k : Nat} (hk : k < 6) : bgM M (k + 1) = upM (bgM M k) 20 k (bgM M k (6 + k) 3) := by
  have e : bgM M k (6 + k) 3 = M (6 + k) 3 := if_neg (by omega)
  rw [e]
  funext a i
  simp only [bgM, upM]
  by_cases h : a = 20 ∧ i = k
  · rw [if_pos ⟨h.1, by omega⟩, if_pos h, h.2]
  · rw [if_neg h]
    by_cases h2 : a = 20 ∧ i < k
    · rw [if_pos h2, if_pos ⟨h2.1, by omega⟩]
    · rw [if_neg h2, if_neg (by omega)]
theorem bgM_ne {M : MM} {k a i : Nat} (h : a ≠ 20) : bgM M k a i = M a i := if_neg (fun q => h q.1)
theorem CJ.eq {M M' : MM} {n : Nat} {J : JT} (h : CJ M n J) (he : ∀ a, a < 12 → ∀ i, M' a i = M a i) : CJ M' n J := by
  obtain ⟨h1, h2, h3⟩ := h
  exact ⟨h1, by rw [he 3 (by decide)]; exact h2, fun j hj i hi => by rw [he (6 + j) (by omega)]; exact h3 j hj i hi⟩
theorem CB.eq {M M' : MM} {n : Nat} {B : JT} (h : CB M n B) (he : ∀ a, a < 16 → ∀ i, M' a i = M a i) : CB M' n B := by
  obtain ⟨h1, h2, h3⟩ := h
  exact ⟨h1, by rw [he 3 (by decide)]; exact h2, fun j hj i hi => by rw [he (12 + j) (by omega)]; exact h3 j hj i hi⟩
/-- the halves of the jars as numbers -/
def HV (n : Nat) (J : JT) (hv : Nat → Nat) : Prop := ∀ j, j < n → J j 3 = i3 (hv j) ∧ hv j ≤ 9
theorem bgM_LF {M : MM} {n : Nat} {J : JT} {hv : Nat → Nat} (hJ : CJ M n J) (hH : HV n J hv) : LF (bgM M 6) n hv := fun j hj => by
  have h6 := hJ.1
  refine ⟨?_, (hH j hj).2⟩
  show (if 20 = 20 ∧ j < 6 then M (6 + j) 3 else M 20 j) = _
  rw [if_pos ⟨rfl, by omega⟩, hJ.2.2 j hj 3 (by decide)]
  exact (hH j hj).1
theorem C_Se_most_at {n nd b : Nat} {J B : JT} {M : MM} {l : Nat → Nat} (hb : b ≤ nd) (hJ : CJ M n J) (hB : CB M nd B) (hL : LF M n l) : AF y_Se_most c_Se_most 7 (some .int) (nd - b + 6) [vR 3, vR 20, vI (i3 b)] M (some (vI (i3 (mostN (okB J B) n nd (nd - b) l)))) M := by
  have h := C_Se_most (nd - b) M l (by omega) hJ hB hL
  rw [show nd - (nd - b) = b by omega] at h
  exact h
theorem d_Se_begin_0 : decode c_Se_begin 0 = .ok (.iconst 0, 1) := by decide +kernel
theorem d_Se_begin_1 : decode c_Se_begin 1 = .ok (.istore_n 2, 1) := by decide +kernel
theorem d_Se_begin_2 : decode c_Se_begin 2 = .ok (.iload_n 2, 1) := by decide +kernel
theorem d_Se_begin_3 : decode c_Se_begin 3 = .ok (.bipush 6, 2) := by decide +kernel
theorem d_Se_begin_5 : decode c_Se_begin 5 = .ok (.if_icmp .ge 24, 3) := by decide +kernel
theorem d_Se_begin_8 : decode c_Se_begin 8 = .ok (.aload_n 0, 1) := by decide +kernel
theorem d_Se_begin_9 : decode c_Se_begin 9 = .ok (.getfield 9, 3) := by decide +kernel
theorem d_Se_begin_12 : decode c_Se_begin 12 = .ok (.iload_n 2, 1) := by decide +kernel
theorem d_Se_begin_13 : decode c_Se_begin 13 = .ok (.aload_n 1, 1) := by decide +kernel
theorem d_Se_begin_14 : decode c_Se_begin 14 = .ok (.getfield 48, 3) := by decide +kernel
theorem d_Se_begin_17 : decode c_Se_begin 17 = .ok (.iload_n 2, 1) := by decide +kernel
theorem d_Se_begin_18 : decode c_Se_begin 18 = .ok (.aaload, 1) := by decide +kernel
theorem d_Se_begin_19 : decode c_Se_begin 19 = .ok (.getfield 52, 3) := by decide +kernel
theorem d_Se_begin_22 : decode c_Se_begin 22 = .ok (.iastore, 1) := by decide +kernel
theorem d_Se_begin_23 : decode c_Se_begin 23 = .ok (.iinc 2 1, 3) := by decide +kernel
theorem d_Se_begin_26 : decode c_Se_begin 26 = .ok (.goto (-24), 3) := by decide +kernel
theorem d_Se_begin_29 : decode c_Se_begin 29 = .ok (.return_, 1) := by decide +kernel
theorem C_Se_begin {M : MM} : AF y_Se_begin c_Se_begin 3 none 1 [vR 19, vR 3] (M) (none) (bgM M 6) := by
  refine AF.of k_Se_begin (lo := [some (vR 19), some (vR 3), none]) rfl (Nat.le_of_ble_eq_true rfl) (fun X hX hR => ?_)
  refine v_iconst (pc := 0) (v := 0) hX (by decide) d_Se_begin_0 ?_
  refine v_istore_n (pc := 1) (lo' := [some (vR _), some (vR _), some (vI _)]) hX (Nat.le_of_ble_eq_true rfl) rfl d_Se_begin_1 ?_
  refine VW.cast (lo' := [some (vR 19), some (vR 3), some (vI (i3 0))]) (st' := []) (G' := gM (bgM M 0)) rfl rfl (by rw [bgM_0]) ?_
  refine v_for (X := X) (head := 2) (6) (fun kk => [some (vR 19), some (vR 3), some (vI (i3 kk))]) (fun kk => bgM M kk) (fun k hk ih2 => ?_) ?_
  · show VW X 2 [some (vR 19), some (vR 3), some (vI (i3 k))] [] (gM (bgM M k))
    have hsj := sh_jar k hk
    refine v_iload_n (pc := 2) hX rfl d_Se_begin_2 ?_
    refine v_bipush (pc := 3) (v := 6) hX (by decide) d_Se_begin_3 ?_
    refine v_icmp_ge (pc := 5) (tgt := 29) hX d_Se_begin_5 rfl (fun h5 => False.elim (i3_ge_abs hk (by decide) h5)) (fun h5 => ?_)
    refine v_aload_n (pc := 8) hX rfl d_Se_begin_8 ?_
    refine g_getR (pc := 9) hX fl_Se_9 rfl rfl nf_19_0 d_Se_begin_9 ?_
    refine v_iload_n (pc := 12) hX rfl d_Se_begin_12 ?_
    refine v_aload_n (pc := 13) hX rfl d_Se_begin_13 ?_
    refine g_getR (pc := 14) hX fl_Se_48 rfl rfl nf_3_0 d_Se_begin_14 ?_
    refine v_iload_n (pc := 17) hX rfl d_Se_begin_17 ?_
    refine g_aald (pc := 18) (c := 1) hX (by decide) (by decide) rfl (IX.of (by omega) (by decide)) (nf_jar k (by omega)) d_Se_begin_18 ?_
    refine g_getI (pc := 19) hX fl_Se_52 rfl (by assumption) d_Se_begin_19 ?_
    refine g_iast (pc := 22) hX rfl (IX.of hk (by decide)) d_Se_begin_22 ?_
    refine v_iinc (pc := 23) (lo' := [some (vR _), some (vR _), some (vI _)]) hX rfl rfl d_Se_begin_23 ?_
    refine v_goto (pc := 26) (tgt := 2) hX d_Se_begin_26 rfl ?_
    exact VW.cast (by rw [i3_succ]; rfl) rfl (by rw [bgM_s M hk]) ih2
  · show VW X 2 [some (vR 19), some (vR 3), some (vI (i3 (6)))] [] (gM (bgM M (6)))
    refine v_iload_n (pc := 2) hX rfl d_Se_begin_2 ?_
    refine v_bipush (pc := 3) (v := 6) hX (by decide) d_Se_begin_3 ?_
    refine v_icmp_ge (pc := 5) (tgt := 29) hX d_Se_begin_5 rfl (fun h5 => ?_) (fun h5 => False.elim (by revert h5; decide))
    exact f_vret (pc := 29) hX hR (rfl) d_Se_begin_29
theorem d_Se_howMany_0 : decode c_Se_howMany 0 = .ok (.aload_n 0, 1) := by decide +kernel
theorem d_Se_howMany_1 : decode c_Se_howMany 1 = .ok (.aload_n 1, 1) := by decide +kernel
theorem d_Se_howMany_2 : decode c_Se_howMany 2 = .ok (.invokevirtual 18, 3) := by decide +kernel
theorem d_Se_howMany_5 : decode c_Se_howMany 5 = .ok (.aload_n 1, 1) := by decide +kernel
theorem d_Se_howMany_6 : decode c_Se_howMany 6 = .ok (.aload_n 0, 1) := by decide +kernel
theorem d_Se_howMany_7 : decode c_Se_howMany 7 = .ok (.getfield 9, 3) := by decide +kernel
theorem d_Se_howMany_10 : decode c_Se_howMany 10 = .ok (.iconst 0, 1) := by decide +kernel
theorem d_Se_howMany_11 : decode c_Se_howMany 11 = .ok (.invokestatic 22, 3) := by decide +kernel
theorem d_Se_howMany_14 : decode c_Se_howMany 14 = .ok (.ireturn, 1) := by decide +kernel
theorem C_Se_howMany {M : MM} {n nd : Nat} {J B : JT} {hv : Nat → Nat} (hJ : CJ M n J) (hB : CB M nd B) (hH : HV n J hv) : AF y_Se_howMany c_Se_howMany 2 (some .int) 13 [vR 19, vR 3] (M) (some (vI (i3 (mostN (okB J B) n nd nd hv)))) (bgM M 6) := by
  have h4 := hB.1
  have hJ1 : CJ (bgM M 6) n J := hJ.eq (fun a ha i => bgM_ne (by omega))
  have hB1 : CB (bgM M 6) nd B := hB.eq (fun a ha i => bgM_ne (by omega))
  refine AF.of k_Se_howMany (lo := [some (vR 19), some (vR 3)]) rfl (Nat.le_of_ble_eq_true rfl) (fun X hX hR => ?_)
  refine v_aload_n (pc := 0) hX rfl d_Se_howMany_0 ?_
  refine v_aload_n (pc := 1) hX rfl d_Se_howMany_1 ?_
  refine f_callV0 (pc := 2) hX k_Se_begin ki_Se_begin kv_Se_begin ml_Se_18 (C_Se_begin) rfl rfl rfl rfl rfl (Nat.le_of_ble_eq_true rfl) (Nat.le_of_ble_eq_true rfl) (Nat.le_of_ble_eq_true rfl) d_Se_howMany_2 ?_
  refine v_aload_n (pc := 5) hX rfl d_Se_howMany_5 ?_
  refine v_aload_n (pc := 6) hX rfl d_Se_howMany_6 ?_
  refine g_getR (pc := 7) hX fl_Se_9 rfl rfl nf_19_0 d_Se_howMany_7 ?_
  refine v_iconst (pc := 10) (v := 0) hX (by decide) d_Se_howMany_10 ?_
  refine f_callS (pc := 11) hX k_Se_most ks_Se_most ml_Se_22 (C_Se_most_at (b := 0) (by omega) hJ1 hB1 (bgM_LF hJ hH)) rfl rfl rfl (by omega) (Nat.le_of_ble_eq_true rfl) (Nat.le_of_ble_eq_true rfl) d_Se_howMany_11 ?_
  exact f_iret (pc := 14) hX hR (rfl) (rfl) d_Se_howMany_14
-- the first of several
def chs (P : Nat → Bool) : Nat → Nat
  | 0 => 0
  | k + 1 => if chs P k < k then chs P k else if P k = true then k else k + 1
theorem chs_none {P : Nat → Bool} : ∀ {k : Nat}, (∀ i, i < k → P i = false) → chs P k = k := by
  intro k
  induction k with
  | zero => intro _; rfl
  | succ k ih =>
    intro h
    unfold chs
    rw [ih (fun i hi => h i (by omega)), if_neg (by omega), h k (by omega)]
    rfl
theorem chs_eq {P : Nat → Bool} {k n : Nat} (hk : k < n) (hP : P k = true) (h : ∀ i, i < k → P i = false) : chs P n = k := by
  induction n with
  | zero => omega
  | succ n ih =>
    unfold chs
    by_cases e : k = n
    · subst e
      rw [chs_none h, if_neg (by omega), if_pos hP]
    · rw [ih (by omega), if_pos (by omega)]
theorem chs_le (P : Nat → Bool) : ∀ n, chs P n ≤ n
  | 0 => Nat.le_refl _
  | n + 1 => by
    have := chs_le P n
    unfold chs
    split
    · omega
    · split <;> omega
theorem chs_P {P : Nat → Bool} : ∀ {n : Nat}, chs P n < n → P (chs P n) = true := by
  intro n
  induction n with
  | zero => intro h; omega
  | succ n ih =>
    intro h
    have hl := chs_le P n
    unfold chs at h ⊢
    by_cases e : chs P n < n
    · rw [if_pos e]; exact ih e
    · rw [if_neg e] at h ⊢
      by_cases e2 : P n = true
      · rw [if_pos e2]; exact e2
      · rw [if_neg e2] at h; omega
def dkB (J B : JT) (j b : Nat) : Bool := decide (B b 0 ≤ mk J j (B b 1))
def fcP (J B : JT) (n nd b op : Nat) (l : Nat → Nat) (j : Nat) : Bool := decide (0 < l j) && (decide (J j 4 ≤ B b 2) && decide ((if dkB J B j b = true then 1 else 0) + mostN (okB J B) n nd (nd - (b + 1)) (dcr l j) = op))
def ec (n c : Nat) : Int32 := if c < n then i3 c else -9
def fcM (M : MM) (n c : Nat) (l : Nat → Nat) : MM := if c < n then upM M 20 c (i3 (l c - 1)) else M
theorem fc_no1 {J B : JT} {n nd b op j : Nat} {l : Nat → Nat} (h : ¬ 0 < l j) : fcP J B n nd b op l j = false := by simp [fcP, h]
theorem fc_no2 {J B : JT} {n nd b op j : Nat} {l : Nat → Nat} (h : ¬ J j 4 ≤ B b 2) : fcP J B n nd b op l j = false := by simp [fcP, h]
theorem fc_no3 {J B : JT} {n nd b op j x : Nat} {l : Nat → Nat} (hx : (if dkB J B j b = true then 1 else 0) = x) (h : ¬ x + mostN (okB J B) n nd (nd - (b + 1)) (dcr l j) = op) : fcP J B n nd b op l j = false := by simp only [fcP, hx, h]; simp
theorem fc_yes {J B : JT} {n nd b op j x : Nat} {l : Nat → Nat} (h1 : 0 < l j) (h2 : J j 4 ≤ B b 2) (hx : (if dkB J B j b = true then 1 else 0) = x) (h : x + mostN (okB J B) n nd (nd - (b + 1)) (dcr l j) = op) : fcP J B n nd b op l j = true := by simp only [fcP, hx, h, h1, h2]; simp
theorem all_s {P : Nat → Bool} {k : Nat} (h : ∀ i, i < k → P i = false) (hk : P k = false) : ∀ i, i < k + 1 → P i = false := fun i hi => by
  by_cases e : i = k
  · rw [e]; exact hk
  · exact h i (by omega)
theorem d_Se_firstChoice_0 : decode c_Se_firstChoice 0 = .ok (.aload_n 1, 1) := by decide +kernel
theorem d_Se_firstChoice_1 : decode c_Se_firstChoice 1 = .ok (.getfield 55, 3) := by decide +kernel
theorem d_Se_firstChoice_4 : decode c_Se_firstChoice 4 = .ok (.iload_n 2, 1) := by decide +kernel
theorem d_Se_firstChoice_5 : decode c_Se_firstChoice 5 = .ok (.aaload, 1) := by decide +kernel
theorem d_Se_firstChoice_6 : decode c_Se_firstChoice 6 = .ok (.astore 4, 2) := by decide +kernel
theorem d_Se_firstChoice_8 : decode c_Se_firstChoice 8 = .ok (.iconst 0, 1) := by decide +kernel
theorem d_Se_firstChoice_9 : decode c_Se_firstChoice 9 = .ok (.istore 5, 2) := by decide +kernel
theorem d_Se_firstChoice_11 : decode c_Se_firstChoice 11 = .ok (.iload 5, 2) := by decide +kernel
theorem d_Se_firstChoice_13 : decode c_Se_firstChoice 13 = .ok (.aload_n 1, 1) := by decide +kernel
theorem d_Se_firstChoice_14 : decode c_Se_firstChoice 14 = .ok (.getfield 59, 3) := by decide +kernel
theorem d_Se_firstChoice_17 : decode c_Se_firstChoice 17 = .ok (.if_icmp .ge 101, 3) := by decide +kernel
theorem d_Se_firstChoice_20 : decode c_Se_firstChoice 20 = .ok (.aload_n 1, 1) := by decide +kernel
theorem d_Se_firstChoice_21 : decode c_Se_firstChoice 21 = .ok (.getfield 48, 3) := by decide +kernel
theorem d_Se_firstChoice_24 : decode c_Se_firstChoice 24 = .ok (.iload 5, 2) := by decide +kernel
theorem d_Se_firstChoice_26 : decode c_Se_firstChoice 26 = .ok (.aaload, 1) := by decide +kernel
theorem d_Se_firstChoice_27 : decode c_Se_firstChoice 27 = .ok (.astore 6, 2) := by decide +kernel
theorem d_Se_firstChoice_29 : decode c_Se_firstChoice 29 = .ok (.aload_n 0, 1) := by decide +kernel
theorem d_Se_firstChoice_30 : decode c_Se_firstChoice 30 = .ok (.getfield 9, 3) := by decide +kernel
theorem d_Se_firstChoice_33 : decode c_Se_firstChoice 33 = .ok (.iload 5, 2) := by decide +kernel
theorem d_Se_firstChoice_35 : decode c_Se_firstChoice 35 = .ok (.iaload, 1) := by decide +kernel
theorem d_Se_firstChoice_36 : decode c_Se_firstChoice 36 = .ok (.ifCond .le 76, 3) := by decide +kernel
theorem d_Se_firstChoice_39 : decode c_Se_firstChoice 39 = .ok (.aload 6, 2) := by decide +kernel
theorem d_Se_firstChoice_41 : decode c_Se_firstChoice 41 = .ok (.getfield 39, 3) := by decide +kernel
theorem d_Se_firstChoice_44 : decode c_Se_firstChoice 44 = .ok (.aload 4, 2) := by decide +kernel
theorem d_Se_firstChoice_46 : decode c_Se_firstChoice 46 = .ok (.getfield 62, 3) := by decide +kernel
theorem d_Se_firstChoice_49 : decode c_Se_firstChoice 49 = .ok (.if_icmp .gt 63, 3) := by decide +kernel
theorem d_Se_firstChoice_52 : decode c_Se_firstChoice 52 = .ok (.aload 4, 2) := by decide +kernel
theorem d_Se_firstChoice_54 : decode c_Se_firstChoice 54 = .ok (.aload 6, 2) := by decide +kernel
theorem d_Se_firstChoice_56 : decode c_Se_firstChoice 56 = .ok (.invokevirtual 67, 3) := by decide +kernel
theorem d_Se_firstChoice_59 : decode c_Se_firstChoice 59 = .ok (.ifCond .eq 7, 3) := by decide +kernel
theorem d_Se_firstChoice_62 : decode c_Se_firstChoice 62 = .ok (.iconst 1, 1) := by decide +kernel
theorem d_Se_firstChoice_63 : decode c_Se_firstChoice 63 = .ok (.goto 4, 3) := by decide +kernel
theorem d_Se_firstChoice_66 : decode c_Se_firstChoice 66 = .ok (.iconst 0, 1) := by decide +kernel
theorem d_Se_firstChoice_67 : decode c_Se_firstChoice 67 = .ok (.istore 7, 2) := by decide +kernel
theorem d_Se_firstChoice_69 : decode c_Se_firstChoice 69 = .ok (.aload_n 0, 1) := by decide +kernel
theorem d_Se_firstChoice_70 : decode c_Se_firstChoice 70 = .ok (.getfield 9, 3) := by decide +kernel
theorem d_Se_firstChoice_73 : decode c_Se_firstChoice 73 = .ok (.iload 5, 2) := by decide +kernel
theorem d_Se_firstChoice_75 : decode c_Se_firstChoice 75 = .ok (.dup2, 1) := by decide +kernel
theorem d_Se_firstChoice_76 : decode c_Se_firstChoice 76 = .ok (.iaload, 1) := by decide +kernel
theorem d_Se_firstChoice_77 : decode c_Se_firstChoice 77 = .ok (.iconst 1, 1) := by decide +kernel
theorem d_Se_firstChoice_78 : decode c_Se_firstChoice 78 = .ok (.isub, 1) := by decide +kernel
theorem d_Se_firstChoice_79 : decode c_Se_firstChoice 79 = .ok (.iastore, 1) := by decide +kernel
theorem d_Se_firstChoice_80 : decode c_Se_firstChoice 80 = .ok (.iload 7, 2) := by decide +kernel
theorem d_Se_firstChoice_82 : decode c_Se_firstChoice 82 = .ok (.aload_n 1, 1) := by decide +kernel
theorem d_Se_firstChoice_83 : decode c_Se_firstChoice 83 = .ok (.aload_n 0, 1) := by decide +kernel
theorem d_Se_firstChoice_84 : decode c_Se_firstChoice 84 = .ok (.getfield 9, 3) := by decide +kernel
theorem d_Se_firstChoice_87 : decode c_Se_firstChoice 87 = .ok (.iload_n 2, 1) := by decide +kernel
theorem d_Se_firstChoice_88 : decode c_Se_firstChoice 88 = .ok (.iconst 1, 1) := by decide +kernel
theorem d_Se_firstChoice_89 : decode c_Se_firstChoice 89 = .ok (.iadd, 1) := by decide +kernel
theorem d_Se_firstChoice_90 : decode c_Se_firstChoice 90 = .ok (.invokestatic 22, 3) := by decide +kernel
theorem d_Se_firstChoice_93 : decode c_Se_firstChoice 93 = .ok (.iadd, 1) := by decide +kernel
theorem d_Se_firstChoice_94 : decode c_Se_firstChoice 94 = .ok (.iload_n 3, 1) := by decide +kernel
theorem d_Se_firstChoice_95 : decode c_Se_firstChoice 95 = .ok (.if_icmp .ne 6, 3) := by decide +kernel
theorem d_Se_firstChoice_98 : decode c_Se_firstChoice 98 = .ok (.iload 5, 2) := by decide +kernel
theorem d_Se_firstChoice_100 : decode c_Se_firstChoice 100 = .ok (.ireturn, 1) := by decide +kernel
theorem d_Se_firstChoice_101 : decode c_Se_firstChoice 101 = .ok (.aload_n 0, 1) := by decide +kernel
theorem d_Se_firstChoice_102 : decode c_Se_firstChoice 102 = .ok (.getfield 9, 3) := by decide +kernel
theorem d_Se_firstChoice_105 : decode c_Se_firstChoice 105 = .ok (.iload 5, 2) := by decide +kernel
theorem d_Se_firstChoice_107 : decode c_Se_firstChoice 107 = .ok (.dup2, 1) := by decide +kernel
theorem d_Se_firstChoice_108 : decode c_Se_firstChoice 108 = .ok (.iaload, 1) := by decide +kernel
theorem d_Se_firstChoice_109 : decode c_Se_firstChoice 109 = .ok (.iconst 1, 1) := by decide +kernel
theorem d_Se_firstChoice_110 : decode c_Se_firstChoice 110 = .ok (.iadd, 1) := by decide +kernel
theorem d_Se_firstChoice_111 : decode c_Se_firstChoice 111 = .ok (.iastore, 1) := by decide +kernel
theorem d_Se_firstChoice_112 : decode c_Se_firstChoice 112 = .ok (.iinc 5 1, 3) := by decide +kernel
theorem d_Se_firstChoice_115 : decode c_Se_firstChoice 115 = .ok (.goto (-104), 3) := by decide +kernel
theorem d_Se_firstChoice_118 : decode c_Se_firstChoice 118 = .ok (.bipush (-9), 2) := by decide +kernel
theorem d_Se_firstChoice_120 : decode c_Se_firstChoice 120 = .ok (.ireturn, 1) := by decide +kernel
set_option maxHeartbeats 4000000 in
theorem C_Se_firstChoice {M : MM} {n nd b op : Nat} {J B : JT} {l : Nat → Nat} (hJ : CJ M n J) (hB : CB M nd B) (hL : LF M n l) (hb : b < nd) (ho : op ≤ 4) : AF y_Se_firstChoice c_Se_firstChoice 8 (some .int) 13 [vR 19, vR 3, vI (i3 b), vI (i3 op)] (M) (some (vI (ec n (chs (fcP J B n nd b op l) n)))) (fcM M n (chs (fcP J B n nd b op l) n) l) := by
  have h6 := hJ.1
  have hM := hJ.2.1
  have h4 := hB.1
  have hsd := sh_dec b (by omega)
  refine AF.of k_Se_firstChoice (lo := [some (vR 19), some (vR 3), some (vI (i3 b)), some (vI (i3 op)), none, none, none, none]) rfl (Nat.le_of_ble_eq_true rfl) (fun X hX hR => ?_)
  refine v_aload_n (pc := 0) hX rfl d_Se_firstChoice_0 ?_
  refine g_getR (pc := 1) hX fl_Se_55 rfl rfl nf_3_1 d_Se_firstChoice_1 ?_
  refine v_iload_n (pc := 4) hX rfl d_Se_firstChoice_4 ?_
  refine g_aald (pc := 5) (c := 0) hX (by decide) (by decide) rfl (IX.of (by omega) (by decide)) (nf_dec _ (by omega)) d_Se_firstChoice_5 ?_
  refine v_astore (pc := 6) (lo' := [some (vR _), some (vR _), some (vI _), some (vI _), some (vR _), none, none, none]) hX (Nat.le_of_ble_eq_true rfl) rfl d_Se_firstChoice_6 ?_
  refine v_iconst (pc := 8) (v := 0) hX (by decide) d_Se_firstChoice_8 ?_
  refine v_istore (pc := 9) (lo' := [some (vR _), some (vR _), some (vI _), some (vI _), some (vR _), some (vI _), none, none]) hX (Nat.le_of_ble_eq_true rfl) rfl d_Se_firstChoice_9 ?_
  refine VW.cast (lo' := [some (vR 19), some (vR 3), some (vI (i3 b)), some (vI (i3 op)), some (vR (12 + b)), some (vI (i3 0)), none, none]) (st' := []) (G' := gM (M)) rfl rfl rfl ?_
  refine v_forI (X := X) (head := 11) (n) (fun kk => [some (vR 19), some (vR 3), some (vI (i3 b)), some (vI (i3 op)), some (vR (12 + b)), some (vI (i3 kk)), none, none]) (fun kk => M) (fun kk => ∀ i, i < kk → fcP J B n nd b op l i = false) (fun i hi => absurd hi (Nat.not_lt_zero i)) (fun k hk hIk ih11 => ?_) (fun hIk => ?_)
  · show VW X 11 [some (vR 19), some (vR 3), some (vI (i3 b)), some (vI (i3 op)), some (vR (12 + b)), some (vI (i3 k)), none, none] [] (gM (M))
    have hIk : ∀ i, i < k → fcP J B n nd b op l i = false := hIk
    have hsj := sh_jar k (by omega)
    obtain ⟨hl1, hl2⟩ := hL k hk
    have hml := mostN_le (okB J B) n nd (nd - (b + 1)) (dcr l k)
    refine v_iload (pc := 11) hX rfl d_Se_firstChoice_11 ?_
    refine v_aload_n (pc := 13) hX rfl d_Se_firstChoice_13 ?_
    refine g_getI (pc := 14) hX fl_Se_59 rfl rfl d_Se_firstChoice_14 ?_
    refine v_icmp_ge (pc := 17) (tgt := 118) hX d_Se_firstChoice_17 rfl (fun h17 => False.elim (i3_ge_abs hk (by omega) (by rw [← hM]; exact h17))) (fun h17 => ?_)
    refine v_aload_n (pc := 20) hX rfl d_Se_firstChoice_20 ?_
    refine g_getR (pc := 21) hX fl_Se_48 rfl rfl nf_3_0 d_Se_firstChoice_21 ?_
    refine v_iload (pc := 24) hX rfl d_Se_firstChoice_24 ?_
    refine g_aald (pc := 26) (c := 1) hX (by decide) (by decide) rfl (IX.of (by omega) (by decide)) (nf_jar k (by omega)) d_Se_firstChoice_26 ?_
    refine v_astore (pc := 27) (lo' := [some (vR _), some (vR _), some (vI _), some (vI _), some (vR _), some (vI _), some (vR _), none]) hX (Nat.le_of_ble_eq_true rfl) rfl d_Se_firstChoice_27 ?_
    refine v_aload_n (pc := 29) hX rfl d_Se_firstChoice_29 ?_
    refine g_getR (pc := 30) hX fl_Se_9 rfl rfl nf_19_0 d_Se_firstChoice_30 ?_
    refine v_iload (pc := 33) hX rfl d_Se_firstChoice_33 ?_
    refine g_iald (pc := 35) hX rfl (IX.of (n := 6) (by omega) (by decide)) d_Se_firstChoice_35 ?_
    rw [hl1]
    refine v_if_le (pc := 36) (tgt := 112) hX d_Se_firstChoice_36 rfl (fun h36 => ?_) (fun h36 => ?_)
    · have e : fcP J B n nd b op l k = false := fc_no1 (by have := (i3_le (b := 0) (by omega) (by decide)).mp h36; omega)
      refine v_iinc (pc := 112) (lo' := [some (vR _), some (vR _), some (vI _), some (vI _), some (vR _), some (vI _), some (vR _), none]) hX rfl rfl d_Se_firstChoice_112 ?_
      refine v_goto (pc := 115) (tgt := 11) hX d_Se_firstChoice_115 rfl ?_
      refine VW.fg [true, true, true, true, true, true, false, true] ?_
      exact VW.cast (by rw [i3_succ]; rfl) rfl rfl (ih11 (all_s hIk e))
    · have hlp : 0 < l k := Nat.pos_of_ne_zero (fun q => h36 (by rw [q]; exact Int32.le_refl _))
      refine v_aload (pc := 39) hX rfl d_Se_firstChoice_39 ?_
      refine g_getI (pc := 41) hX fl_Se_39 rfl (by assumption) d_Se_firstChoice_41 ?_
      refine v_aload (pc := 44) hX rfl d_Se_firstChoice_44 ?_
      refine g_getI (pc := 46) hX fl_Se_62 rfl (by assumption) d_Se_firstChoice_46 ?_
      rw [hJ.2.2 k hk 4 (by decide), hB.2.2 _ hb 2 (by decide)]
      refine v_icmp_gt (pc := 49) (tgt := 112) hX d_Se_firstChoice_49 rfl (fun h49 => ?_) (fun h49 => ?_)
      · have e : fcP J B n nd b op l k = false := fc_no2 (Int32.not_le.mpr h49)
        refine v_iinc (pc := 112) (lo' := [some (vR _), some (vR _), some (vI _), some (vI _), some (vR _), some (vI _), some (vR _), none]) hX rfl rfl d_Se_firstChoice_112 ?_
        refine v_goto (pc := 115) (tgt := 11) hX d_Se_firstChoice_115 rfl ?_
        refine VW.fg [true, true, true, true, true, true, false, true] ?_
        exact VW.cast (by rw [i3_succ]; rfl) rfl rfl (ih11 (all_s hIk e))
      · refine v_aload (pc := 52) hX rfl d_Se_firstChoice_52 ?_
        refine v_aload (pc := 54) hX rfl d_Se_firstChoice_54 ?_
        refine f_callV (pc := 56) hX k_De_decidesBy ki_De_decidesBy kv_De_decidesBy ml_Se_67 (C_De_decidesBy (by assumption) (by assumption)) (by assumption) rfl rfl rfl rfl (Nat.le_of_ble_eq_true rfl) (Nat.le_of_ble_eq_true rfl) (Nat.le_of_ble_eq_true rfl) d_Se_firstChoice_56 ?_
        rw [hJ.mk hk, hB.2.2 _ hb 0 (by decide), hB.2.2 _ hb 1 (by decide)]
        refine f_ifeqB (pc := 59) (tgt := 66) hX d_Se_firstChoice_59 rfl (fun h59 => ?_) (fun h59 => ?_)
        · have hx : (if dkB J B k b = true then 1 else 0) = 0 := by unfold dkB; rw [h59]; rfl
          have hy : (0 : Int32) = i3 0 := rfl
          refine v_iconst (pc := 66) (v := 0) hX (by decide) d_Se_firstChoice_66 ?_
          refine v_istore (pc := 67) (lo' := [some (vR _), some (vR _), some (vI _), some (vI _), some (vR _), some (vI _), some (vR _), some (vI _)]) hX (Nat.le_of_ble_eq_true rfl) rfl d_Se_firstChoice_67 ?_
          refine v_aload_n (pc := 69) hX rfl d_Se_firstChoice_69 ?_
          refine g_getR (pc := 70) hX fl_Se_9 rfl rfl nf_19_0 d_Se_firstChoice_70 ?_
          refine v_iload (pc := 73) hX rfl d_Se_firstChoice_73 ?_
          refine v_dup2 (pc := 75) hX rfl rfl d_Se_firstChoice_75 ?_
          refine g_iald (pc := 76) hX rfl (IX.of (n := 6) (by omega) (by decide)) d_Se_firstChoice_76 ?_
          refine v_iconst (pc := 77) (v := 1) hX (by decide) d_Se_firstChoice_77 ?_
          refine v_isub (pc := 78) hX d_Se_firstChoice_78 ?_
          rw [hl1, i3_sub1 hlp]
          refine g_iast (pc := 79) hX rfl (IX.of (n := 6) (by omega) (by decide)) d_Se_firstChoice_79 ?_
          refine v_iload (pc := 80) hX rfl d_Se_firstChoice_80 ?_
          refine v_aload_n (pc := 82) hX rfl d_Se_firstChoice_82 ?_
          refine v_aload_n (pc := 83) hX rfl d_Se_firstChoice_83 ?_
          refine g_getR (pc := 84) hX fl_Se_9 rfl rfl nf_19_0 d_Se_firstChoice_84 ?_
          refine v_iload_n (pc := 87) hX rfl d_Se_firstChoice_87 ?_
          refine v_iconst (pc := 88) (v := 1) hX (by decide) d_Se_firstChoice_88 ?_
          refine v_iadd (pc := 89) hX d_Se_firstChoice_89 ?_
          rw [← i3_succ]
          refine f_callS (pc := 90) hX k_Se_most ks_Se_most ml_Se_22 (C_Se_most_at (b := b + 1) (by omega) (hJ.up (by decide)) (hB.up (by decide)) hL.dcr) rfl rfl rfl (by omega) (Nat.le_of_ble_eq_true rfl) (Nat.le_of_ble_eq_true rfl) d_Se_firstChoice_90 ?_
          refine v_iadd (pc := 93) hX d_Se_firstChoice_93 ?_
          refine v_iload_n (pc := 94) hX rfl d_Se_firstChoice_94 ?_
          refine v_icmp_ne (pc := 95) (tgt := 101) hX d_Se_firstChoice_95 rfl (fun h95 => ?_) (fun h95 => ?_)
          · have e : fcP J B n nd b op l k = false := fc_no3 hx (fun q => h95 (by rw [hy, ← i3_add, q]))
            refine v_aload_n (pc := 101) hX rfl d_Se_firstChoice_101 ?_
            refine g_getR (pc := 102) hX fl_Se_9 rfl rfl nf_19_0 d_Se_firstChoice_102 ?_
            refine v_iload (pc := 105) hX rfl d_Se_firstChoice_105 ?_
            refine v_dup2 (pc := 107) hX rfl rfl d_Se_firstChoice_107 ?_
            refine g_iald (pc := 108) hX rfl (IX.of (n := 6) (by omega) (by decide)) d_Se_firstChoice_108 ?_
            refine v_iconst (pc := 109) (v := 1) hX (by decide) d_Se_firstChoice_109 ?_
            refine v_iadd (pc := 110) hX d_Se_firstChoice_110 ?_
            rw [upM_same, i3_back hlp]
            refine g_iast (pc := 111) hX rfl (IX.of (n := 6) (by omega) (by decide)) d_Se_firstChoice_111 ?_
            rw [upM_back hl1]
            refine v_iinc (pc := 112) (lo' := [some (vR _), some (vR _), some (vI _), some (vI _), some (vR _), some (vI _), some (vR _), some (vI _)]) hX rfl rfl d_Se_firstChoice_112 ?_
            refine v_goto (pc := 115) (tgt := 11) hX d_Se_firstChoice_115 rfl ?_
            refine VW.fg [true, true, true, true, true, true, false, false] ?_
            exact VW.cast (by rw [i3_succ]; rfl) rfl rfl (ih11 (all_s hIk e))
          · have e : fcP J B n nd b op l k = true := fc_yes hlp (Int32.not_lt.mp h49) hx ((i3_inj (by omega) (by omega)).mp (by rw [i3_add]; exact h95))
            have ec1 := chs_eq hk e hIk
            refine v_iload (pc := 98) hX rfl d_Se_firstChoice_98 ?_
            exact f_iret (pc := 100) hX hR (by rw [ec1]; unfold ec; rw [if_pos hk]) (by rw [ec1]; unfold fcM; rw [if_pos hk]) d_Se_firstChoice_100
        · have hx : (if dkB J B k b = true then 1 else 0) = 1 := by unfold dkB; rw [h59]; rfl
          have hy : (1 : Int32) = i3 1 := rfl
          refine v_iconst (pc := 62) (v := 1) hX (by decide) d_Se_firstChoice_62 ?_
          refine v_goto (pc := 63) (tgt := 67) hX d_Se_firstChoice_63 rfl ?_
          refine v_istore (pc := 67) (lo' := [some (vR _), some (vR _), some (vI _), some (vI _), some (vR _), some (vI _), some (vR _), some (vI _)]) hX (Nat.le_of_ble_eq_true rfl) rfl d_Se_firstChoice_67 ?_
          refine v_aload_n (pc := 69) hX rfl d_Se_firstChoice_69 ?_
          refine g_getR (pc := 70) hX fl_Se_9 rfl rfl nf_19_0 d_Se_firstChoice_70 ?_
          refine v_iload (pc := 73) hX rfl d_Se_firstChoice_73 ?_
          refine v_dup2 (pc := 75) hX rfl rfl d_Se_firstChoice_75 ?_
          refine g_iald (pc := 76) hX rfl (IX.of (n := 6) (by omega) (by decide)) d_Se_firstChoice_76 ?_
          refine v_iconst (pc := 77) (v := 1) hX (by decide) d_Se_firstChoice_77 ?_
          refine v_isub (pc := 78) hX d_Se_firstChoice_78 ?_
          rw [hl1, i3_sub1 hlp]
          refine g_iast (pc := 79) hX rfl (IX.of (n := 6) (by omega) (by decide)) d_Se_firstChoice_79 ?_
          refine v_iload (pc := 80) hX rfl d_Se_firstChoice_80 ?_
          refine v_aload_n (pc := 82) hX rfl d_Se_firstChoice_82 ?_
          refine v_aload_n (pc := 83) hX rfl d_Se_firstChoice_83 ?_
          refine g_getR (pc := 84) hX fl_Se_9 rfl rfl nf_19_0 d_Se_firstChoice_84 ?_
          refine v_iload_n (pc := 87) hX rfl d_Se_firstChoice_87 ?_
          refine v_iconst (pc := 88) (v := 1) hX (by decide) d_Se_firstChoice_88 ?_
          refine v_iadd (pc := 89) hX d_Se_firstChoice_89 ?_
          rw [← i3_succ]
          refine f_callS (pc := 90) hX k_Se_most ks_Se_most ml_Se_22 (C_Se_most_at (b := b + 1) (by omega) (hJ.up (by decide)) (hB.up (by decide)) hL.dcr) rfl rfl rfl (by omega) (Nat.le_of_ble_eq_true rfl) (Nat.le_of_ble_eq_true rfl) d_Se_firstChoice_90 ?_
          refine v_iadd (pc := 93) hX d_Se_firstChoice_93 ?_
          refine v_iload_n (pc := 94) hX rfl d_Se_firstChoice_94 ?_
          refine v_icmp_ne (pc := 95) (tgt := 101) hX d_Se_firstChoice_95 rfl (fun h95 => ?_) (fun h95 => ?_)
          · have e : fcP J B n nd b op l k = false := fc_no3 hx (fun q => h95 (by rw [hy, ← i3_add, q]))
            refine v_aload_n (pc := 101) hX rfl d_Se_firstChoice_101 ?_
            refine g_getR (pc := 102) hX fl_Se_9 rfl rfl nf_19_0 d_Se_firstChoice_102 ?_
            refine v_iload (pc := 105) hX rfl d_Se_firstChoice_105 ?_
            refine v_dup2 (pc := 107) hX rfl rfl d_Se_firstChoice_107 ?_
            refine g_iald (pc := 108) hX rfl (IX.of (n := 6) (by omega) (by decide)) d_Se_firstChoice_108 ?_
            refine v_iconst (pc := 109) (v := 1) hX (by decide) d_Se_firstChoice_109 ?_
            refine v_iadd (pc := 110) hX d_Se_firstChoice_110 ?_
            rw [upM_same, i3_back hlp]
            refine g_iast (pc := 111) hX rfl (IX.of (n := 6) (by omega) (by decide)) d_Se_firstChoice_111 ?_
            rw [upM_back hl1]
            refine v_iinc (pc := 112) (lo' := [some (vR _), some (vR _), some (vI _), some (vI _), some (vR _), some (vI _), some (vR _), some (vI _)]) hX rfl rfl d_Se_firstChoice_112 ?_
            refine v_goto (pc := 115) (tgt := 11) hX d_Se_firstChoice_115 rfl ?_
            refine VW.fg [true, true, true, true, true, true, false, false] ?_
            exact VW.cast (by rw [i3_succ]; rfl) rfl rfl (ih11 (all_s hIk e))
          · have e : fcP J B n nd b op l k = true := fc_yes hlp (Int32.not_lt.mp h49) hx ((i3_inj (by omega) (by omega)).mp (by rw [i3_add]; exact h95))
            have ec1 := chs_eq hk e hIk
            refine v_iload (pc := 98) hX rfl d_Se_firstChoice_98 ?_
            exact f_iret (pc := 100) hX hR (by rw [ec1]; unfold ec; rw [if_pos hk]) (by rw [ec1]; unfold fcM; rw [if_pos hk]) d_Se_firstChoice_100
  · show VW X 11 [some (vR 19), some (vR 3), some (vI (i3 b)), some (vI (i3 op)), some (vR (12 + b)), some (vI (i3 (n))), none, none] [] (gM (M))
    have hIk : ∀ i, i < (n) → fcP J B n nd b op l i = false := hIk
    refine v_iload (pc := 11) hX rfl d_Se_firstChoice_11 ?_
    refine v_aload_n (pc := 13) hX rfl d_Se_firstChoice_13 ?_
    refine g_getI (pc := 14) hX fl_Se_59 rfl rfl d_Se_firstChoice_14 ?_
    refine v_icmp_ge (pc := 17) (tgt := 118) hX d_Se_firstChoice_17 rfl (fun h17 => ?_) (fun h17 => False.elim (absurd (by rw [hM]; exact Int32.le_refl _) h17))
    refine v_bipush (pc := 118) (v := (-9)) hX (by decide) d_Se_firstChoice_118 ?_
    exact f_iret (pc := 120) hX hR (by rw [chs_none hIk]; unfold ec; rw [if_neg (Nat.lt_irrefl n)]) (by rw [chs_none hIk]; unfold fcM; rw [if_neg (Nat.lt_irrefl n)]) d_Se_firstChoice_120
-- choosing: what is left and how many are open before decider b
def stt (J B : JT) (n nd : Nat) (hv : Nat → Nat) : Nat → (Nat → Nat) × Nat
  | 0 => (hv, mostN (okB J B) n nd nd hv)
  | b + 1 => (if chs (fcP J B n nd b (stt J B n nd hv b).2 (stt J B n nd hv b).1) n < n then dcr (stt J B n nd hv b).1 (chs (fcP J B n nd b (stt J B n nd hv b).2 (stt J B n nd hv b).1) n) else (stt J B n nd hv b).1, (stt J B n nd hv b).2 - (if chs (fcP J B n nd b (stt J B n nd hv b).2 (stt J B n nd hv b).1) n < n ∧ dkB J B (chs (fcP J B n nd b (stt J B n nd hv b).2 (stt J B n nd hv b).1) n) b = true then 1 else 0))
def cho (J B : JT) (n nd : Nat) (hv : Nat → Nat) (b : Nat) : Nat := chs (fcP J B n nd b (stt J B n nd hv b).2 (stt J B n nd hv b).1) n
theorem stt_1 (J B : JT) (n nd : Nat) (hv : Nat → Nat) (b : Nat) : (stt J B n nd hv (b + 1)).1 = if cho J B n nd hv b < n then dcr (stt J B n nd hv b).1 (cho J B n nd hv b) else (stt J B n nd hv b).1 := rfl
theorem stt_2 (J B : JT) (n nd : Nat) (hv : Nat → Nat) (b : Nat) : (stt J B n nd hv (b + 1)).2 = (stt J B n nd hv b).2 - (if cho J B n nd hv b < n ∧ dkB J B (cho J B n nd hv b) b = true then 1 else 0) := rfl
theorem stt_op (J B : JT) (n nd : Nat) (hv : Nat → Nat) (h4 : nd ≤ 4) : ∀ b, (stt J B n nd hv b).2 ≤ 4
  | 0 => Nat.le_trans (mostN_le _ n nd nd hv) h4
  | b + 1 => by rw [stt_2]; have := stt_op J B n nd hv h4 b; omega
theorem stt_l {J B : JT} {n nd : Nat} {hv : Nat → Nat} (h : ∀ j, j < n → hv j ≤ 9) : ∀ b j, j < n → (stt J B n nd hv b).1 j ≤ 9
  | 0, j, hj => h j hj
  | b + 1, j, hj => by
    have := stt_l (J := J) (B := B) (nd := nd) h b j hj
    rw [stt_1]
    split
    · unfold dcr; split <;> omega
    · exact this
def KM (J B : JT) (n nd : Nat) (hv : Nat → Nat) (M : MM) (b : Nat) : MM := fun a i => if a = 20 ∧ i < 6 then (if i < n then i3 ((stt J B n nd hv b).1 i) else M (6 + i) 3) else if a = 21 ∧ i < b then ec n (cho J B n nd hv i) else M a i
theorem KM_ne {J B : JT} {n nd : Nat} {hv : Nat → Nat} {M : MM} {b a i : Nat} (h : a ≠ 20) (h2 : a ≠ 21) : KM J B n nd hv M b a i = M a i := by
  unfold KM; rw [if_neg (fun q => h q.1), if_neg (fun q => h2 q.1)]
theorem KM_0 {J B : JT} {n nd : Nat} {hv : Nat → Nat} {M : MM} (hJ : CJ M n J) (hH : HV n J hv) : KM J B n nd hv M 0 = bgM M 6 := by
  funext a i
  unfold KM bgM
  by_cases e : a = 20 ∧ i < 6
  · rw [if_pos e, if_pos e]
    by_cases e2 : i < n
    · rw [if_pos e2, hJ.2.2 i e2 3 (by decide), (hH i e2).1]; rfl
    · rw [if_neg e2]
  · rw [if_neg e, if_neg e, if_neg (by omega)]
theorem KM_LF {J B : JT} {n nd : Nat} {hv : Nat → Nat} {M : MM} (h6 : n ≤ 6) (hH : HV n J hv) (b : Nat) : LF (KM J B n nd hv M b) n (stt J B n nd hv b).1 := fun j hj => by
  refine ⟨?_, stt_l (fun j hj => (hH j hj).2) b j hj⟩
  unfold KM
  rw [if_pos ⟨rfl, by omega⟩, if_pos hj]
theorem fcM_at {M : MM} {n c : Nat} {l : Nat → Nat} {a i : Nat} : fcM M n c l a i = if c < n ∧ a = 20 ∧ i = c then i3 (l c - 1) else M a i := by
  unfold fcM
  by_cases h : c < n
  · rw [if_pos h]
    unfold upM
    by_cases e : a = 20 ∧ i = c
    · rw [if_pos e, if_pos ⟨h, e⟩]
    · rw [if_neg e, if_neg (fun q => e q.2)]
  · rw [if_neg h, if_neg (fun q => h q.1)]
theorem KM_s {J B : JT} {n nd : Nat} {hv : Nat → Nat} {M : MM} (h6 : n ≤ 6) (b : Nat) : upM (fcM (KM J B n nd hv M b) n (cho J B n nd hv b) (stt J B n nd hv b).1) 21 b (ec n (cho J B n nd hv b)) = KM J B n nd hv M (b + 1) := by
  funext a i
  show (if a = 21 ∧ i = b then ec n (cho J B n nd hv b) else fcM (KM J B n nd hv M b) n (cho J B n nd hv b) (stt J B n nd hv b).1 a i) = _
  rw [fcM_at]
  by_cases h1 : a = 21 ∧ i = b
  · rw [if_pos h1]
    unfold KM
    rw [if_neg (by omega), if_pos (by omega), h1.2]
  · rw [if_neg h1]
    by_cases h2 : cho J B n nd hv b < n ∧ a = 20 ∧ i = cho J B n nd hv b
    · rw [if_pos h2]
      unfold KM
      rw [if_pos (by omega), if_pos (by omega), stt_1, if_pos h2.1]
      unfold dcr
      rw [if_pos h2.2.2, h2.2.2]
    · rw [if_neg h2]
      unfold KM
      by_cases h3 : a = 20 ∧ i < 6
      · rw [if_pos h3, if_pos h3]
        by_cases h4 : i < n
        · rw [if_pos h4, if_pos h4, stt_1]
          by_cases h5 : cho J B n nd hv b < n
          · rw [if_pos h5]
            unfold dcr
            rw [if_neg (fun q => h2 ⟨h5, h3.1, q⟩)]
          · rw [if_neg h5]
        · rw [if_neg h4, if_neg h4]
      · rw [if_neg h3, if_neg h3]
        by_cases h7 : a = 21 ∧ i < b
        · rw [if_pos h7, if_pos (by omega)]
        · rw [if_neg h7, if_neg (by omega)]
theorem cho_op {J B : JT} {n nd b : Nat} {hv : Nat → Nat} (h : cho J B n nd hv b < n) (hd : dkB J B (cho J B n nd hv b) b = true) : 0 < (stt J B n nd hv b).2 := by
  have := chs_P h
  simp only [fcP, Bool.and_eq_true, decide_eq_true_eq] at this
  have h3 := this.2.2
  have e : chs (fcP J B n nd b (stt J B n nd hv b).snd (stt J B n nd hv b).fst) n = cho J B n nd hv b := rfl
  rw [e, hd] at h3
  simp only [if_true] at h3
  omega
theorem d_Se_choose_0 : decode c_Se_choose 0 = .ok (.aload_n 0, 1) := by decide +kernel
theorem d_Se_choose_1 : decode c_Se_choose 1 = .ok (.aload_n 1, 1) := by decide +kernel
theorem d_Se_choose_2 : decode c_Se_choose 2 = .ok (.invokevirtual 44, 3) := by decide +kernel
theorem d_Se_choose_5 : decode c_Se_choose 5 = .ok (.istore_n 2, 1) := by decide +kernel
theorem d_Se_choose_6 : decode c_Se_choose 6 = .ok (.iconst 0, 1) := by decide +kernel
theorem d_Se_choose_7 : decode c_Se_choose 7 = .ok (.istore_n 3, 1) := by decide +kernel
theorem d_Se_choose_8 : decode c_Se_choose 8 = .ok (.iload_n 3, 1) := by decide +kernel
theorem d_Se_choose_9 : decode c_Se_choose 9 = .ok (.aload_n 1, 1) := by decide +kernel
theorem d_Se_choose_10 : decode c_Se_choose 10 = .ok (.getfield 29, 3) := by decide +kernel
theorem d_Se_choose_13 : decode c_Se_choose 13 = .ok (.if_icmp .ge 61, 3) := by decide +kernel
theorem d_Se_choose_16 : decode c_Se_choose 16 = .ok (.aload_n 0, 1) := by decide +kernel
theorem d_Se_choose_17 : decode c_Se_choose 17 = .ok (.getfield 15, 3) := by decide +kernel
theorem d_Se_choose_20 : decode c_Se_choose 20 = .ok (.iload_n 3, 1) := by decide +kernel
theorem d_Se_choose_21 : decode c_Se_choose 21 = .ok (.aload_n 0, 1) := by decide +kernel
theorem d_Se_choose_22 : decode c_Se_choose 22 = .ok (.aload_n 1, 1) := by decide +kernel
theorem d_Se_choose_23 : decode c_Se_choose 23 = .ok (.iload_n 3, 1) := by decide +kernel
theorem d_Se_choose_24 : decode c_Se_choose 24 = .ok (.iload_n 2, 1) := by decide +kernel
theorem d_Se_choose_25 : decode c_Se_choose 25 = .ok (.invokevirtual 77, 3) := by decide +kernel
theorem d_Se_choose_28 : decode c_Se_choose 28 = .ok (.iastore, 1) := by decide +kernel
theorem d_Se_choose_29 : decode c_Se_choose 29 = .ok (.aload_n 1, 1) := by decide +kernel
theorem d_Se_choose_30 : decode c_Se_choose 30 = .ok (.aload_n 0, 1) := by decide +kernel
theorem d_Se_choose_31 : decode c_Se_choose 31 = .ok (.getfield 15, 3) := by decide +kernel
theorem d_Se_choose_34 : decode c_Se_choose 34 = .ok (.iload_n 3, 1) := by decide +kernel
theorem d_Se_choose_35 : decode c_Se_choose 35 = .ok (.iaload, 1) := by decide +kernel
theorem d_Se_choose_36 : decode c_Se_choose 36 = .ok (.invokevirtual 81, 3) := by decide +kernel
theorem d_Se_choose_39 : decode c_Se_choose 39 = .ok (.astore 4, 2) := by decide +kernel
theorem d_Se_choose_41 : decode c_Se_choose 41 = .ok (.iload_n 2, 1) := by decide +kernel
theorem d_Se_choose_42 : decode c_Se_choose 42 = .ok (.aload 4, 2) := by decide +kernel
theorem d_Se_choose_44 : decode c_Se_choose 44 = .ok (.ifnull 21, 3) := by decide +kernel
theorem d_Se_choose_47 : decode c_Se_choose 47 = .ok (.aload_n 1, 1) := by decide +kernel
theorem d_Se_choose_48 : decode c_Se_choose 48 = .ok (.getfield 55, 3) := by decide +kernel
theorem d_Se_choose_51 : decode c_Se_choose 51 = .ok (.iload_n 3, 1) := by decide +kernel
theorem d_Se_choose_52 : decode c_Se_choose 52 = .ok (.aaload, 1) := by decide +kernel
theorem d_Se_choose_53 : decode c_Se_choose 53 = .ok (.aload 4, 2) := by decide +kernel
theorem d_Se_choose_55 : decode c_Se_choose 55 = .ok (.invokevirtual 67, 3) := by decide +kernel
theorem d_Se_choose_58 : decode c_Se_choose 58 = .ok (.ifCond .eq 7, 3) := by decide +kernel
theorem d_Se_choose_61 : decode c_Se_choose 61 = .ok (.iconst 1, 1) := by decide +kernel
theorem d_Se_choose_62 : decode c_Se_choose 62 = .ok (.goto 4, 3) := by decide +kernel
theorem d_Se_choose_65 : decode c_Se_choose 65 = .ok (.iconst 0, 1) := by decide +kernel
theorem d_Se_choose_66 : decode c_Se_choose 66 = .ok (.isub, 1) := by decide +kernel
theorem d_Se_choose_67 : decode c_Se_choose 67 = .ok (.istore_n 2, 1) := by decide +kernel
theorem d_Se_choose_68 : decode c_Se_choose 68 = .ok (.iinc 3 1, 3) := by decide +kernel
theorem d_Se_choose_71 : decode c_Se_choose 71 = .ok (.goto (-63), 3) := by decide +kernel
theorem d_Se_choose_74 : decode c_Se_choose 74 = .ok (.return_, 1) := by decide +kernel
set_option maxHeartbeats 4000000 in
theorem C_Se_choose {M : MM} {n nd : Nat} {J B : JT} {hv : Nat → Nat} (hJ : CJ M n J) (hB : CB M nd B) (hH : HV n J hv) : AF y_Se_choose c_Se_choose 5 none 14 [vR 19, vR 3] (M) (none) (KM J B n nd hv M nd) := by
  have h6 := hJ.1
  have hM := hJ.2.1
  have h4 := hB.1
  have hM3 := hB.2.1
  refine AF.of k_Se_choose (lo := [some (vR 19), some (vR 3), none, none, none]) rfl (Nat.le_of_ble_eq_true rfl) (fun X hX hR => ?_)
  refine v_aload_n (pc := 0) hX rfl d_Se_choose_0 ?_
  refine v_aload_n (pc := 1) hX rfl d_Se_choose_1 ?_
  refine f_callV (pc := 2) hX k_Se_howMany ki_Se_howMany kv_Se_howMany ml_Se_44 (C_Se_howMany hJ hB hH) rfl rfl rfl rfl rfl (Nat.le_of_ble_eq_true rfl) (Nat.le_of_ble_eq_true rfl) (Nat.le_of_ble_eq_true rfl) d_Se_choose_2 ?_
  refine v_istore_n (pc := 5) (lo' := [some (vR _), some (vR _), some (vI _), none, none]) hX (Nat.le_of_ble_eq_true rfl) rfl d_Se_choose_5 ?_
  refine v_iconst (pc := 6) (v := 0) hX (by decide) d_Se_choose_6 ?_
  refine v_istore_n (pc := 7) (lo' := [some (vR _), some (vR _), some (vI _), some (vI _), none]) hX (Nat.le_of_ble_eq_true rfl) rfl d_Se_choose_7 ?_
  refine VW.cast (lo' := [some (vR 19), some (vR 3), some (vI (i3 (stt J B n nd hv 0).2)), some (vI (i3 0)), none]) (st' := []) (G' := gM (KM J B n nd hv M 0)) rfl rfl (by rw [KM_0 hJ hH]) ?_
  refine v_for (X := X) (head := 8) (nd) (fun kk => [some (vR 19), some (vR 3), some (vI (i3 (stt J B n nd hv kk).2)), some (vI (i3 kk)), none]) (fun kk => KM J B n nd hv M kk) (fun k hk ih8 => ?_) ?_
  · show VW X 8 [some (vR 19), some (vR 3), some (vI (i3 (stt J B n nd hv k).2)), some (vI (i3 k)), none] [] (gM (KM J B n nd hv M k))
    have hJ1 : CJ (KM J B n nd hv M k) n J := hJ.eq (fun a ha i => KM_ne (by omega) (by omega))
    have hB1 : CB (KM J B n nd hv M k) nd B := hB.eq (fun a ha i => KM_ne (by omega) (by omega))
    have hop := stt_op J B n nd hv h4 k
    have hsd := sh_dec k (by omega)
    have hJ2 : CJ (KM J B n nd hv M (k + 1)) n J := hJ.eq (fun a ha i => KM_ne (by omega) (by omega))
    have hB2 : CB (KM J B n nd hv M (k + 1)) nd B := hB.eq (fun a ha i => KM_ne (by omega) (by omega))
    have hck : KM J B n nd hv M (k + 1) 21 k = ec n (cho J B n nd hv k) := by
      unfold KM
      rw [if_neg (by omega), if_pos ⟨rfl, by omega⟩]
    by_cases hcase : cho J B n nd hv k < n
    · have hec : ec n (cho J B n nd hv k) = i3 (cho J B n nd hv k) := by unfold ec; rw [if_pos hcase]
      have hsj := sh_jar (cho J B n nd hv k) (by omega)
      refine v_iload_n (pc := 8) hX rfl d_Se_choose_8 ?_
      refine v_aload_n (pc := 9) hX rfl d_Se_choose_9 ?_
      refine g_getI (pc := 10) hX fl_Se_29 rfl rfl d_Se_choose_10 ?_
      refine v_icmp_ge (pc := 13) (tgt := 74) hX d_Se_choose_13 rfl (fun h13 => False.elim (i3_ge_abs hk (by omega) (by rw [← hM3, ← hB1.2.1.trans hM3.symm]; exact h13))) (fun h13 => ?_)
      refine v_aload_n (pc := 16) hX rfl d_Se_choose_16 ?_
      refine g_getR (pc := 17) hX fl_Se_15 rfl rfl nf_19_1 d_Se_choose_17 ?_
      refine v_iload_n (pc := 20) hX rfl d_Se_choose_20 ?_
      refine v_aload_n (pc := 21) hX rfl d_Se_choose_21 ?_
      refine v_aload_n (pc := 22) hX rfl d_Se_choose_22 ?_
      refine v_iload_n (pc := 23) hX rfl d_Se_choose_23 ?_
      refine v_iload_n (pc := 24) hX rfl d_Se_choose_24 ?_
      refine f_callV (pc := 25) hX k_Se_firstChoice ki_Se_firstChoice kv_Se_firstChoice ml_Se_77 (C_Se_firstChoice hJ1 hB1 (KM_LF h6 hH k) hk hop) rfl rfl rfl rfl rfl (Nat.le_of_ble_eq_true rfl) (Nat.le_of_ble_eq_true rfl) (Nat.le_of_ble_eq_true rfl) d_Se_choose_25 ?_
      refine g_iast (pc := 28) hX rfl (IX.of (n := 4) (by omega) (by decide)) d_Se_choose_28 ?_
      rw [show chs (fcP J B n nd k (stt J B n nd hv k).2 (stt J B n nd hv k).1) n = cho J B n nd hv k from rfl, KM_s h6 k]
      refine v_aload_n (pc := 29) hX rfl d_Se_choose_29 ?_
      refine v_aload_n (pc := 30) hX rfl d_Se_choose_30 ?_
      refine g_getR (pc := 31) hX fl_Se_15 rfl rfl nf_19_1 d_Se_choose_31 ?_
      refine v_iload_n (pc := 34) hX rfl d_Se_choose_34 ?_
      refine g_iald (pc := 35) hX rfl (IX.of (n := 4) (by omega) (by decide)) d_Se_choose_35 ?_
      rw [hck, hec]
      refine f_callV (pc := 36) hX k_Sp_jarAt ki_Sp_jarAt kv_Sp_jarAt ml_Se_81 (C_Sp_jarAt_in h6 hJ2.2.1 hcase) rfl rfl rfl rfl rfl (Nat.le_of_ble_eq_true rfl) (Nat.le_of_ble_eq_true rfl) (Nat.le_of_ble_eq_true rfl) d_Se_choose_36 ?_
      refine v_astore (pc := 39) (lo' := [some (vR _), some (vR _), some (vI _), some (vI _), some (vR _)]) hX (Nat.le_of_ble_eq_true rfl) rfl d_Se_choose_39 ?_
      refine v_iload_n (pc := 41) hX rfl d_Se_choose_41 ?_
      refine v_aload (pc := 42) hX rfl d_Se_choose_42 ?_
      refine v_ifnull (pc := 44) (tgt := 65) hX d_Se_choose_44 rfl (fun h44 => False.elim (by have := sh_two (by assumption); omega)) (fun h44 => ?_)
      refine v_aload_n (pc := 47) hX rfl d_Se_choose_47 ?_
      refine g_getR (pc := 48) hX fl_Se_55 rfl rfl nf_3_1 d_Se_choose_48 ?_
      refine v_iload_n (pc := 51) hX rfl d_Se_choose_51 ?_
      refine g_aald (pc := 52) (c := 0) hX (by decide) (by decide) rfl (IX.of (by omega) (by decide)) (nf_dec _ (by omega)) d_Se_choose_52 ?_
      refine v_aload (pc := 53) hX rfl d_Se_choose_53 ?_
      refine f_callV (pc := 55) hX k_De_decidesBy ki_De_decidesBy kv_De_decidesBy ml_Se_67 (C_De_decidesBy (by assumption) (by assumption)) (by assumption) rfl rfl rfl rfl (Nat.le_of_ble_eq_true rfl) (Nat.le_of_ble_eq_true rfl) (Nat.le_of_ble_eq_true rfl) d_Se_choose_55 ?_
      rw [hJ2.mk hcase, hB2.2.2 _ hk 0 (by decide), hB2.2.2 _ hk 1 (by decide)]
      refine f_ifeqB (pc := 58) (tgt := 65) hX d_Se_choose_58 rfl (fun h58 => ?_) (fun h58 => ?_)
      · have hd : dkB J B (cho J B n nd hv k) k = false := h58
        have e : (stt J B n nd hv (k + 1)).2 = (stt J B n nd hv k).2 := by rw [stt_2, if_neg (by rw [hd]; simp)]; rfl
        refine v_iconst (pc := 65) (v := 0) hX (by decide) d_Se_choose_65 ?_
        refine v_isub (pc := 66) hX d_Se_choose_66 ?_
        refine v_istore_n (pc := 67) (lo' := [some (vR _), some (vR _), some (vI _), some (vI _), some (vR _)]) hX (Nat.le_of_ble_eq_true rfl) rfl d_Se_choose_67 ?_
        refine v_iinc (pc := 68) (lo' := [some (vR _), some (vR _), some (vI _), some (vI _), some (vR _)]) hX rfl rfl d_Se_choose_68 ?_
        refine v_goto (pc := 71) (tgt := 8) hX d_Se_choose_71 rfl ?_
        refine VW.fg [true, true, true, true, false] ?_
        exact VW.cast (by first | (rw [e, i3_succ, Int32.sub_zero]; rfl) | (rw [e, i3_succ, ← i3_sub1 hp]; rfl)) rfl rfl ih8
      · have hd : dkB J B (cho J B n nd hv k) k = true := h58
        have hp := cho_op hcase hd
        have e : (stt J B n nd hv (k + 1)).2 = (stt J B n nd hv k).2 - 1 := by rw [stt_2, if_pos ⟨hcase, hd⟩]
        refine v_iconst (pc := 61) (v := 1) hX (by decide) d_Se_choose_61 ?_
        refine v_goto (pc := 62) (tgt := 66) hX d_Se_choose_62 rfl ?_
        refine v_isub (pc := 66) hX d_Se_choose_66 ?_
        refine v_istore_n (pc := 67) (lo' := [some (vR _), some (vR _), some (vI _), some (vI _), some (vR _)]) hX (Nat.le_of_ble_eq_true rfl) rfl d_Se_choose_67 ?_
        refine v_iinc (pc := 68) (lo' := [some (vR _), some (vR _), some (vI _), some (vI _), some (vR _)]) hX rfl rfl d_Se_choose_68 ?_
        refine v_goto (pc := 71) (tgt := 8) hX d_Se_choose_71 rfl ?_
        refine VW.fg [true, true, true, true, false] ?_
        exact VW.cast (by first | (rw [e, i3_succ, Int32.sub_zero]; rfl) | (rw [e, i3_succ, ← i3_sub1 hp]; rfl)) rfl rfl ih8
    · have hec : ec n (cho J B n nd hv k) = -9 := by unfold ec; rw [if_neg hcase]
      have e : (stt J B n nd hv (k + 1)).2 = (stt J B n nd hv k).2 := by rw [stt_2, if_neg (fun q => hcase q.1)]; rfl
      refine v_iload_n (pc := 8) hX rfl d_Se_choose_8 ?_
      refine v_aload_n (pc := 9) hX rfl d_Se_choose_9 ?_
      refine g_getI (pc := 10) hX fl_Se_29 rfl rfl d_Se_choose_10 ?_
      refine v_icmp_ge (pc := 13) (tgt := 74) hX d_Se_choose_13 rfl (fun h13 => False.elim (i3_ge_abs hk (by omega) (by rw [← hM3, ← hB1.2.1.trans hM3.symm]; exact h13))) (fun h13 => ?_)
      refine v_aload_n (pc := 16) hX rfl d_Se_choose_16 ?_
      refine g_getR (pc := 17) hX fl_Se_15 rfl rfl nf_19_1 d_Se_choose_17 ?_
      refine v_iload_n (pc := 20) hX rfl d_Se_choose_20 ?_
      refine v_aload_n (pc := 21) hX rfl d_Se_choose_21 ?_
      refine v_aload_n (pc := 22) hX rfl d_Se_choose_22 ?_
      refine v_iload_n (pc := 23) hX rfl d_Se_choose_23 ?_
      refine v_iload_n (pc := 24) hX rfl d_Se_choose_24 ?_
      refine f_callV (pc := 25) hX k_Se_firstChoice ki_Se_firstChoice kv_Se_firstChoice ml_Se_77 (C_Se_firstChoice hJ1 hB1 (KM_LF h6 hH k) hk hop) rfl rfl rfl rfl rfl (Nat.le_of_ble_eq_true rfl) (Nat.le_of_ble_eq_true rfl) (Nat.le_of_ble_eq_true rfl) d_Se_choose_25 ?_
      refine g_iast (pc := 28) hX rfl (IX.of (n := 4) (by omega) (by decide)) d_Se_choose_28 ?_
      rw [show chs (fcP J B n nd k (stt J B n nd hv k).2 (stt J B n nd hv k).1) n = cho J B n nd hv k from rfl, KM_s h6 k]
      refine v_aload_n (pc := 29) hX rfl d_Se_choose_29 ?_
      refine v_aload_n (pc := 30) hX rfl d_Se_choose_30 ?_
      refine g_getR (pc := 31) hX fl_Se_15 rfl rfl nf_19_1 d_Se_choose_31 ?_
      refine v_iload_n (pc := 34) hX rfl d_Se_choose_34 ?_
      refine g_iald (pc := 35) hX rfl (IX.of (n := 4) (by omega) (by decide)) d_Se_choose_35 ?_
      rw [hck, hec]
      refine f_callV (pc := 36) hX k_Sp_jarAt ki_Sp_jarAt kv_Sp_jarAt ml_Se_81 (C_Sp_jarAt_out h6 hJ2.2.1 (rg_false.mpr (by rw [q_m9]; omega))) rfl rfl rfl rfl rfl (Nat.le_of_ble_eq_true rfl) (Nat.le_of_ble_eq_true rfl) (Nat.le_of_ble_eq_true rfl) d_Se_choose_36 ?_
      refine v_astore (pc := 39) (lo' := [some (vR _), some (vR _), some (vI _), some (vI _), some (vR _)]) hX (Nat.le_of_ble_eq_true rfl) rfl d_Se_choose_39 ?_
      refine v_iload_n (pc := 41) hX rfl d_Se_choose_41 ?_
      refine v_aload (pc := 42) hX rfl d_Se_choose_42 ?_
      refine v_ifnull (pc := 44) (tgt := 65) hX d_Se_choose_44 rfl (fun h44 => ?_) (fun h44 => False.elim (by revert h44; decide))
      refine v_iconst (pc := 65) (v := 0) hX (by decide) d_Se_choose_65 ?_
      refine v_isub (pc := 66) hX d_Se_choose_66 ?_
      refine v_istore_n (pc := 67) (lo' := [some (vR _), some (vR _), some (vI _), some (vI _), some (vR _)]) hX (Nat.le_of_ble_eq_true rfl) rfl d_Se_choose_67 ?_
      refine v_iinc (pc := 68) (lo' := [some (vR _), some (vR _), some (vI _), some (vI _), some (vR _)]) hX rfl rfl d_Se_choose_68 ?_
      refine v_goto (pc := 71) (tgt := 8) hX d_Se_choose_71 rfl ?_
      refine VW.fg [true, true, true, true, false] ?_
      exact VW.cast (by first | (rw [e, i3_succ, Int32.sub_zero]; rfl) | (rw [e, i3_succ, ← i3_sub1 hp]; rfl)) rfl rfl ih8
  · show VW X 8 [some (vR 19), some (vR 3), some (vI (i3 (stt J B n nd hv (nd)).2)), some (vI (i3 (nd))), none] [] (gM (KM J B n nd hv M (nd)))
    refine v_iload_n (pc := 8) hX rfl d_Se_choose_8 ?_
    refine v_aload_n (pc := 9) hX rfl d_Se_choose_9 ?_
    refine g_getI (pc := 10) hX fl_Se_29 rfl rfl d_Se_choose_10 ?_
    refine v_icmp_ge (pc := 13) (tgt := 74) hX d_Se_choose_13 rfl (fun h13 => ?_) (fun h13 => False.elim (absurd (by rw [KM_ne (by decide) (by decide), hM3]; exact Int32.le_refl _) h13))
    exact f_vret (pc := 74) hX hR (rfl) d_Se_choose_74
end
section
/-! Whom to serve: a decider, how dear. -/
theorem d_Se_jarFor_0 : decode c_Se_jarFor 0 = .ok (.aload_n 0, 1) := by decide +kernel
theorem d_Se_jarFor_1 : decode c_Se_jarFor 1 = .ok (.aload_n 1, 1) := by decide +kernel
theorem d_Se_jarFor_2 : decode c_Se_jarFor 2 = .ok (.invokevirtual 26, 3) := by decide +kernel
theorem d_Se_jarFor_5 : decode c_Se_jarFor 5 = .ok (.iload_n 2, 1) := by decide +kernel
theorem d_Se_jarFor_6 : decode c_Se_jarFor 6 = .ok (.aload_n 1, 1) := by decide +kernel
theorem d_Se_jarFor_7 : decode c_Se_jarFor 7 = .ok (.getfield 29, 3) := by decide +kernel
theorem d_Se_jarFor_10 : decode c_Se_jarFor 10 = .ok (.invokestatic 35, 3) := by decide +kernel
theorem d_Se_jarFor_13 : decode c_Se_jarFor 13 = .ok (.ifCond .eq 12, 3) := by decide +kernel
theorem d_Se_jarFor_16 : decode c_Se_jarFor 16 = .ok (.aload_n 0, 1) := by decide +kernel
theorem d_Se_jarFor_17 : decode c_Se_jarFor 17 = .ok (.getfield 15, 3) := by decide +kernel
theorem d_Se_jarFor_20 : decode c_Se_jarFor 20 = .ok (.iload_n 2, 1) := by decide +kernel
theorem d_Se_jarFor_21 : decode c_Se_jarFor 21 = .ok (.iaload, 1) := by decide +kernel
theorem d_Se_jarFor_22 : decode c_Se_jarFor 22 = .ok (.goto 5, 3) := by decide +kernel
theorem d_Se_jarFor_25 : decode c_Se_jarFor 25 = .ok (.bipush (-9), 2) := by decide +kernel
theorem d_Se_jarFor_27 : decode c_Se_jarFor 27 = .ok (.ireturn, 1) := by decide +kernel
theorem C_Se_jarFor_in {M : MM} {n nd : Nat} {J B : JT} {hv : Nat → Nat} (hJ : CJ M n J) (hB : CB M nd B) (hH : HV n J hv) {b : Nat} (hb : b < nd) : AF y_Se_jarFor c_Se_jarFor 3 (some .int) 15 [vR 19, vR 3, vI (i3 b)] (M) (some (vI (ec n (cho J B n nd hv b)))) (KM J B n nd hv M nd) := by
  have h4 := hB.1
  have hM3 := hB.2.1
  have h6 := hJ.1
  refine AF.of k_Se_jarFor (lo := [some (vR 19), some (vR 3), some (vI (i3 b))]) rfl (Nat.le_of_ble_eq_true rfl) (fun X hX hR => ?_)
  refine v_aload_n (pc := 0) hX rfl d_Se_jarFor_0 ?_
  refine v_aload_n (pc := 1) hX rfl d_Se_jarFor_1 ?_
  refine f_callV0 (pc := 2) hX k_Se_choose ki_Se_choose kv_Se_choose ml_Se_26 (C_Se_choose hJ hB hH) rfl rfl rfl rfl rfl (Nat.le_of_ble_eq_true rfl) (Nat.le_of_ble_eq_true rfl) (Nat.le_of_ble_eq_true rfl) d_Se_jarFor_2 ?_
  refine v_iload_n (pc := 5) hX rfl d_Se_jarFor_5 ?_
  refine v_aload_n (pc := 6) hX rfl d_Se_jarFor_6 ?_
  refine g_getI (pc := 7) hX fl_Se_29 rfl rfl d_Se_jarFor_7 ?_
  rw [KM_ne (by decide) (by decide), hM3]
  refine f_callN (pc := 10) hX k_LJ_isBelow ks_LJ_isBelow (by decide) (C_LJ_isBelow) rfl rfl rfl (Nat.le_of_ble_eq_true rfl) (Nat.le_of_ble_eq_true rfl) (Nat.le_of_ble_eq_true rfl) d_Se_jarFor_10 ?_
  refine f_ifeqB (pc := 13) (tgt := 25) hX d_Se_jarFor_13 rfl (fun h13 => False.elim (absurd h13 (by rw [i3_int (by omega), rg_i3 hb (by omega)]; decide))) (fun h13 => ?_)
  refine v_aload_n (pc := 16) hX rfl d_Se_jarFor_16 ?_
  refine g_getR (pc := 17) hX fl_Se_15 rfl rfl nf_19_1 d_Se_jarFor_17 ?_
  refine v_iload_n (pc := 20) hX rfl d_Se_jarFor_20 ?_
  refine g_iald (pc := 21) hX rfl (IX.of (n := 4) (by omega) (by decide)) d_Se_jarFor_21 ?_
  refine v_goto (pc := 22) (tgt := 27) hX d_Se_jarFor_22 rfl ?_
  exact f_iret (pc := 27) hX hR (by unfold KM; rw [if_neg (by omega), if_pos ⟨rfl, hb⟩]) (rfl) d_Se_jarFor_27
theorem C_Se_jarFor_out {M : MM} {n nd : Nat} {J B : JT} {hv : Nat → Nat} (hJ : CJ M n J) (hB : CB M nd B) (hH : HV n J hv) {b : Nat} (hb : nd ≤ b) (hb2 : b ≤ 9) : AF y_Se_jarFor c_Se_jarFor 3 (some .int) 15 [vR 19, vR 3, vI (i3 b)] (M) (some (vI (-9))) (KM J B n nd hv M nd) := by
  have h4 := hB.1
  have hM3 := hB.2.1
  have h6 := hJ.1
  refine AF.of k_Se_jarFor (lo := [some (vR 19), some (vR 3), some (vI (i3 b))]) rfl (Nat.le_of_ble_eq_true rfl) (fun X hX hR => ?_)
  refine v_aload_n (pc := 0) hX rfl d_Se_jarFor_0 ?_
  refine v_aload_n (pc := 1) hX rfl d_Se_jarFor_1 ?_
  refine f_callV0 (pc := 2) hX k_Se_choose ki_Se_choose kv_Se_choose ml_Se_26 (C_Se_choose hJ hB hH) rfl rfl rfl rfl rfl (Nat.le_of_ble_eq_true rfl) (Nat.le_of_ble_eq_true rfl) (Nat.le_of_ble_eq_true rfl) d_Se_jarFor_2 ?_
  refine v_iload_n (pc := 5) hX rfl d_Se_jarFor_5 ?_
  refine v_aload_n (pc := 6) hX rfl d_Se_jarFor_6 ?_
  refine g_getI (pc := 7) hX fl_Se_29 rfl rfl d_Se_jarFor_7 ?_
  rw [KM_ne (by decide) (by decide), hM3]
  refine f_callN (pc := 10) hX k_LJ_isBelow ks_LJ_isBelow (by decide) (C_LJ_isBelow) rfl rfl rfl (Nat.le_of_ble_eq_true rfl) (Nat.le_of_ble_eq_true rfl) (Nat.le_of_ble_eq_true rfl) d_Se_jarFor_10 ?_
  refine f_ifeqB (pc := 13) (tgt := 25) hX d_Se_jarFor_13 rfl (fun h13 => ?_) (fun h13 => False.elim (absurd h13 (by rw [i3_int (by omega), show rg (i3 b) 0 ((nd : Int) - 1) = false from rg_false.mpr (by rw [i3_int (by omega)]; omega)]; decide)))
  refine v_bipush (pc := 25) (v := (-9)) hX (by decide) d_Se_jarFor_25 ?_
  exact f_iret (pc := 27) hX hR (rfl) (rfl) d_Se_jarFor_27
-- how dear
def drN (f : Nat → Bool) (p : Nat) : Nat → Nat
  | 0 => p
  | v + 1 => if p < v + 1 ∧ f (v + 1) = true then v + 1 else drN f p v
theorem dr_low (f : Nat → Bool) (p : Nat) : ∀ v, v ≤ p → drN f p v = p
  | 0, _ => rfl
  | v + 1, h => by unfold drN; rw [if_neg (by omega)]; exact dr_low f p v (by omega)
theorem dr_hit {f : Nat → Bool} {p v : Nat} (h : p < v) (hf : f v = true) : drN f p v = v := by
  match v, h with
  | v + 1, h => unfold drN; rw [if_pos ⟨h, hf⟩]
theorem dr_no {f : Nat → Bool} {p k : Nat} (hk : k < 9) (hf : f (9 - k) = false) : drN f p (9 - k) = drN f p (9 - (k + 1)) := by
  generalize hd : 9 - (k + 1) = d
  rw [show 9 - k = d + 1 by omega] at hf ⊢
  conv => lhs; unfold drN
  rw [if_neg (by rw [hf]; simp)]
def dM (M : MM) (j k : Nat) : MM := if k = 0 then bgM M 6 else upM (bgM M 6) (6 + j) 4 (i3 (10 - k))
theorem upM_up {M : MM} {r k : Nat} {x y : Int32} : upM (upM M r k x) r k y = upM M r k y := by
  funext a i
  unfold upM
  by_cases e : a = r ∧ i = k
  · rw [if_pos e, if_pos e]
  · rw [if_neg e, if_neg e, if_neg e]
theorem dM_up {M : MM} {j k : Nat} {x : Int32} : upM (dM M j k) (6 + j) 4 x = upM (bgM M 6) (6 + j) 4 x := by
  unfold dM
  split
  · rfl
  · exact upM_up
theorem bg_up {M : MM} {j : Nat} {x : Int32} (hj : j < 6) : bgM (upM (bgM M 6) (6 + j) 4 x) 6 = upM (bgM M 6) (6 + j) 4 x := by
  funext a i
  show (if a = 20 ∧ i < 6 then upM (bgM M 6) (6 + j) 4 x (6 + i) 3 else upM (bgM M 6) (6 + j) 4 x a i) = _
  by_cases e : a = 20 ∧ i < 6
  · rw [if_pos e, upM_ne (by omega), upM_ne (by omega), bgM_ne (by omega)]
    unfold bgM
    rw [if_pos e]
  · rw [if_neg e]
theorem CJ.set {M : MM} {n j k : Nat} {J : JT} {x : Int32} (h : CJ M n J) (hj : j < n) : CJ (upM M (6 + j) k x) n (upM J j k x) := by
  obtain ⟨h1, h2, h3⟩ := h
  refine ⟨h1, by rw [upM_ne (by omega)]; exact h2, fun j' hj' i hi => ?_⟩
  unfold upM
  by_cases e : j' = j ∧ i = k
  · rw [if_pos (by omega), if_pos e]
  · rw [if_neg (by omega), if_neg e]; exact h3 j' hj' i hi
theorem CB.upj {M : MM} {n j k : Nat} {B : JT} {x : Int32} (h : CB M n B) (hj : j < 6) : CB (upM M (6 + j) k x) n B := by
  obtain ⟨h1, h2, h3⟩ := h
  exact ⟨h1, by rw [upM_ne (by omega)]; exact h2, fun j' hj' i hi => by rw [upM_ne (by omega)]; exact h3 j' hj' i hi⟩
theorem HV.up4 {n j : Nat} {J : JT} {hv : Nat → Nat} {x : Int32} (h : HV n J hv) : HV n (upM J j 4 x) hv := fun j' hj' => by rw [upM_ne (by omega)]; exact h j' hj'
def mvN (J B : JT) (n nd : Nat) (hv : Nat → Nat) (j v : Nat) : Nat := mostN (okB (upM J j 4 (i3 v)) B) n nd nd hv
theorem upM_back2 {M : MM} {r k : Nat} {y : Int32} (h : M r k = y) : upM M r k y = M := by
  funext a i
  unfold upM
  by_cases e : a = r ∧ i = k
  · rw [if_pos e, e.1, e.2, h]
  · rw [if_neg e]
theorem d_Se_dearest_0 : decode c_Se_dearest 0 = .ok (.aload_n 2, 1) := by decide +kernel
theorem d_Se_dearest_1 : decode c_Se_dearest 1 = .ok (.getfield 39, 3) := by decide +kernel
theorem d_Se_dearest_4 : decode c_Se_dearest 4 = .ok (.istore_n 3, 1) := by decide +kernel
theorem d_Se_dearest_5 : decode c_Se_dearest 5 = .ok (.aload_n 0, 1) := by decide +kernel
theorem d_Se_dearest_6 : decode c_Se_dearest 6 = .ok (.aload_n 1, 1) := by decide +kernel
theorem d_Se_dearest_7 : decode c_Se_dearest 7 = .ok (.invokevirtual 44, 3) := by decide +kernel
theorem d_Se_dearest_10 : decode c_Se_dearest 10 = .ok (.istore 4, 2) := by decide +kernel
theorem d_Se_dearest_12 : decode c_Se_dearest 12 = .ok (.iload_n 3, 1) := by decide +kernel
theorem d_Se_dearest_13 : decode c_Se_dearest 13 = .ok (.istore 5, 2) := by decide +kernel
theorem d_Se_dearest_15 : decode c_Se_dearest 15 = .ok (.bipush 9, 2) := by decide +kernel
theorem d_Se_dearest_17 : decode c_Se_dearest 17 = .ok (.istore 6, 2) := by decide +kernel
theorem d_Se_dearest_19 : decode c_Se_dearest 19 = .ok (.iload 6, 2) := by decide +kernel
theorem d_Se_dearest_21 : decode c_Se_dearest 21 = .ok (.iload_n 3, 1) := by decide +kernel
theorem d_Se_dearest_22 : decode c_Se_dearest 22 = .ok (.if_icmp .le 39, 3) := by decide +kernel
theorem d_Se_dearest_25 : decode c_Se_dearest 25 = .ok (.iload 5, 2) := by decide +kernel
theorem d_Se_dearest_27 : decode c_Se_dearest 27 = .ok (.iload_n 3, 1) := by decide +kernel
theorem d_Se_dearest_28 : decode c_Se_dearest 28 = .ok (.if_icmp .ne 33, 3) := by decide +kernel
theorem d_Se_dearest_31 : decode c_Se_dearest 31 = .ok (.aload_n 2, 1) := by decide +kernel
theorem d_Se_dearest_32 : decode c_Se_dearest 32 = .ok (.iload 6, 2) := by decide +kernel
theorem d_Se_dearest_34 : decode c_Se_dearest 34 = .ok (.putfield 39, 3) := by decide +kernel
theorem d_Se_dearest_37 : decode c_Se_dearest 37 = .ok (.aload_n 0, 1) := by decide +kernel
theorem d_Se_dearest_38 : decode c_Se_dearest 38 = .ok (.aload_n 1, 1) := by decide +kernel
theorem d_Se_dearest_39 : decode c_Se_dearest 39 = .ok (.invokevirtual 44, 3) := by decide +kernel
theorem d_Se_dearest_42 : decode c_Se_dearest 42 = .ok (.iload 4, 2) := by decide +kernel
theorem d_Se_dearest_44 : decode c_Se_dearest 44 = .ok (.if_icmp .lt 8, 3) := by decide +kernel
theorem d_Se_dearest_47 : decode c_Se_dearest 47 = .ok (.iload 6, 2) := by decide +kernel
theorem d_Se_dearest_49 : decode c_Se_dearest 49 = .ok (.goto 4, 3) := by decide +kernel
theorem d_Se_dearest_52 : decode c_Se_dearest 52 = .ok (.iload_n 3, 1) := by decide +kernel
theorem d_Se_dearest_53 : decode c_Se_dearest 53 = .ok (.istore 5, 2) := by decide +kernel
theorem d_Se_dearest_55 : decode c_Se_dearest 55 = .ok (.iinc 6 (-1), 3) := by decide +kernel
theorem d_Se_dearest_58 : decode c_Se_dearest 58 = .ok (.goto (-39), 3) := by decide +kernel
theorem d_Se_dearest_61 : decode c_Se_dearest 61 = .ok (.aload_n 2, 1) := by decide +kernel
theorem d_Se_dearest_62 : decode c_Se_dearest 62 = .ok (.iload_n 3, 1) := by decide +kernel
theorem d_Se_dearest_63 : decode c_Se_dearest 63 = .ok (.putfield 39, 3) := by decide +kernel
theorem d_Se_dearest_66 : decode c_Se_dearest 66 = .ok (.iload 5, 2) := by decide +kernel
theorem d_Se_dearest_68 : decode c_Se_dearest 68 = .ok (.ireturn, 1) := by decide +kernel
set_option maxHeartbeats 4000000 in
theorem C_Se_dearest {M : MM} {n nd : Nat} {J B : JT} {hv : Nat → Nat} (hJ : CJ M n J) (hB : CB M nd B) (hH : HV n J hv) {j p : Nat} (hj : j < n) (hp : J j 4 = i3 p) (hp9 : p ≤ 9) : AF y_Se_dearest c_Se_dearest 7 (some .int) 14 [vR 19, vR 3, vR (6 + j)] (M) (some (vI (i3 (drN (fun v => decide (mostN (okB J B) n nd nd hv ≤ mvN J B n nd hv j v)) p 9)))) (bgM M 6) := by
  have h4 := hB.1
  have hM3 := hB.2.1
  have h6 := hJ.1
  have hsj := sh_jar j (by omega)
  have hMp : M (6 + j) 4 = i3 p := by rw [hJ.2.2 j hj 4 (by decide)]; exact hp
  have hml := mostN_le (okB J B) n nd nd hv
  have hJ1 : CJ (bgM M 6) n J := hJ.eq (fun a ha i => bgM_ne (by omega))
  have hB1 : CB (bgM M 6) nd B := hB.eq (fun a ha i => bgM_ne (by omega))
  have hbp : bgM M 6 (6 + j) 4 = i3 p := by rw [bgM_ne (by omega)]; exact hMp
  refine AF.of k_Se_dearest (lo := [some (vR 19), some (vR 3), some (vR (6 + j)), none, none, none, none]) rfl (Nat.le_of_ble_eq_true rfl) (fun X hX hR => ?_)
  refine v_aload_n (pc := 0) hX rfl d_Se_dearest_0 ?_
  refine g_getI (pc := 1) hX fl_Se_39 rfl (by assumption) d_Se_dearest_1 ?_
  rw [hMp]
  refine v_istore_n (pc := 4) (lo' := [some (vR _), some (vR _), some (vR _), some (vI _), none, none, none]) hX (Nat.le_of_ble_eq_true rfl) rfl d_Se_dearest_4 ?_
  refine v_aload_n (pc := 5) hX rfl d_Se_dearest_5 ?_
  refine v_aload_n (pc := 6) hX rfl d_Se_dearest_6 ?_
  refine f_callV (pc := 7) hX k_Se_howMany ki_Se_howMany kv_Se_howMany ml_Se_44 (C_Se_howMany hJ hB hH) rfl rfl rfl rfl rfl (Nat.le_of_ble_eq_true rfl) (Nat.le_of_ble_eq_true rfl) (Nat.le_of_ble_eq_true rfl) d_Se_dearest_7 ?_
  refine v_istore (pc := 10) (lo' := [some (vR _), some (vR _), some (vR _), some (vI _), some (vI _), none, none]) hX (Nat.le_of_ble_eq_true rfl) rfl d_Se_dearest_10 ?_
  refine v_iload_n (pc := 12) hX rfl d_Se_dearest_12 ?_
  refine v_istore (pc := 13) (lo' := [some (vR _), some (vR _), some (vR _), some (vI _), some (vI _), some (vI _), none]) hX (Nat.le_of_ble_eq_true rfl) rfl d_Se_dearest_13 ?_
  refine v_bipush (pc := 15) (v := 9) hX (by decide) d_Se_dearest_15 ?_
  refine v_istore (pc := 17) (lo' := [some (vR _), some (vR _), some (vR _), some (vI _), some (vI _), some (vI _), some (vI _)]) hX (Nat.le_of_ble_eq_true rfl) rfl d_Se_dearest_17 ?_
  refine VW.cast (lo' := [some (vR 19), some (vR 3), some (vR (6 + j)), some (vI (i3 p)), some (vI (i3 (mostN (okB J B) n nd nd hv))), some (vI (i3 p)), some (vI (i3 (9 - 0)))]) (st' := []) (G' := gM (dM M j 0)) rfl rfl rfl ?_
  refine v_forI (X := X) (head := 19) (9 - p) (fun kk => [some (vR 19), some (vR 3), some (vR (6 + j)), some (vI (i3 p)), some (vI (i3 (mostN (okB J B) n nd nd hv))), some (vI (i3 p)), some (vI (i3 (9 - kk)))]) (fun kk => dM M j kk) (fun kk => drN (fun v => decide (mostN (okB J B) n nd nd hv ≤ mvN J B n nd hv j v)) p 9 = drN (fun v => decide (mostN (okB J B) n nd nd hv ≤ mvN J B n nd hv j v)) p (9 - kk)) (rfl) (fun k hk hIk ih19 => ?_) (fun hIk => ?_)
  · show VW X 19 [some (vR 19), some (vR 3), some (vR (6 + j)), some (vI (i3 p)), some (vI (i3 (mostN (okB J B) n nd nd hv))), some (vI (i3 p)), some (vI (i3 (9 - k)))] [] (gM (dM M j k))
    have hIk : drN (fun v => decide (mostN (okB J B) n nd nd hv ≤ mvN J B n nd hv j v)) p 9 = drN (fun v => decide (mostN (okB J B) n nd nd hv ≤ mvN J B n nd hv j v)) p (9 - k) := hIk
    have hmv := mostN_le (okB (upM J j 4 (i3 (9 - k))) B) n nd nd hv
    refine v_iload (pc := 19) hX rfl d_Se_dearest_19 ?_
    refine v_iload_n (pc := 21) hX rfl d_Se_dearest_21 ?_
    refine v_icmp_le (pc := 22) (tgt := 61) hX d_Se_dearest_22 rfl (fun h22 => False.elim (by have := (i3_le (by omega) (by omega)).mp h22; omega)) (fun h22 => ?_)
    refine v_iload (pc := 25) hX rfl d_Se_dearest_25 ?_
    refine v_iload_n (pc := 27) hX rfl d_Se_dearest_27 ?_
    refine v_icmp_ne (pc := 28) (tgt := 61) hX d_Se_dearest_28 rfl (fun h28 => False.elim (h28 rfl)) (fun h28 => ?_)
    refine v_aload_n (pc := 31) hX rfl d_Se_dearest_31 ?_
    refine v_iload (pc := 32) hX rfl d_Se_dearest_32 ?_
    refine g_putI (pc := 34) hX fl_Se_39 rfl (finI rfl rfl) (by assumption) rfl rfl d_Se_dearest_34 ?_
    rw [dM_up]
    refine v_aload_n (pc := 37) hX rfl d_Se_dearest_37 ?_
    refine v_aload_n (pc := 38) hX rfl d_Se_dearest_38 ?_
    refine f_callV (pc := 39) hX k_Se_howMany ki_Se_howMany kv_Se_howMany ml_Se_44 (C_Se_howMany (hJ1.set hj) (hB1.upj (by omega)) hH.up4) rfl rfl rfl rfl rfl (Nat.le_of_ble_eq_true rfl) (Nat.le_of_ble_eq_true rfl) (Nat.le_of_ble_eq_true rfl) d_Se_dearest_39 ?_
    rw [bg_up (by omega)]
    refine v_iload (pc := 42) hX rfl d_Se_dearest_42 ?_
    refine v_icmp_lt (pc := 44) (tgt := 52) hX d_Se_dearest_44 rfl (fun h44 => ?_) (fun h44 => ?_)
    · refine v_iload_n (pc := 52) hX rfl d_Se_dearest_52 ?_
      refine v_istore (pc := 53) (lo' := [some (vR _), some (vR _), some (vR _), some (vI _), some (vI _), some (vI _), some (vI _)]) hX (Nat.le_of_ble_eq_true rfl) rfl d_Se_dearest_53 ?_
      refine v_iinc (pc := 55) (lo' := [some (vR _), some (vR _), some (vR _), some (vI _), some (vI _), some (vI _), some (vI _)]) hX rfl rfl d_Se_dearest_55 ?_
      refine v_goto (pc := 58) (tgt := 19) hX d_Se_dearest_58 rfl ?_
      exact VW.cast (by rw [i3_pred (by omega)]) rfl (by unfold dM; rw [if_neg (Nat.succ_ne_zero k), show 10 - (k + 1) = 9 - k by omega]) (ih19 (by rw [hIk]; exact dr_no (by omega) (decide_eq_false (fun q => by unfold mvN at q; have := (i3_lt (by omega) (by omega)).mp h44; omega))))
    · refine v_iload (pc := 47) hX rfl d_Se_dearest_47 ?_
      refine v_goto (pc := 49) (tgt := 53) hX d_Se_dearest_49 rfl ?_
      refine v_istore (pc := 53) (lo' := [some (vR _), some (vR _), some (vR _), some (vI _), some (vI _), some (vI _), some (vI _)]) hX (Nat.le_of_ble_eq_true rfl) rfl d_Se_dearest_53 ?_
      refine v_iinc (pc := 55) (lo' := [some (vR _), some (vR _), some (vR _), some (vI _), some (vI _), some (vI _), some (vI _)]) hX rfl rfl d_Se_dearest_55 ?_
      refine v_goto (pc := 58) (tgt := 19) hX d_Se_dearest_58 rfl ?_
      refine v_iload (pc := 19) hX rfl d_Se_dearest_19 ?_
      refine v_iload_n (pc := 21) hX rfl d_Se_dearest_21 ?_
      refine v_icmp_le (pc := 22) (tgt := 61) hX d_Se_dearest_22 rfl (fun h22 => ?_) (fun h22 => ?_)
      · refine v_aload_n (pc := 61) hX rfl d_Se_dearest_61 ?_
        refine v_iload_n (pc := 62) hX rfl d_Se_dearest_62 ?_
        refine g_putI (pc := 63) hX fl_Se_39 rfl (finI rfl rfl) (by assumption) rfl rfl d_Se_dearest_63 ?_
        rw [upM_up, upM_back2 hbp]
        refine v_iload (pc := 66) hX rfl d_Se_dearest_66 ?_
        exact f_iret (pc := 68) hX hR (by rw [hIk, dr_hit (by omega) (decide_eq_true (Nat.le_of_not_lt (fun q => h44 ((i3_lt (by omega) (by omega)).mpr q))))]) (rfl) d_Se_dearest_68
      · refine v_iload (pc := 25) hX rfl d_Se_dearest_25 ?_
        refine v_iload_n (pc := 27) hX rfl d_Se_dearest_27 ?_
        refine v_icmp_ne (pc := 28) (tgt := 61) hX d_Se_dearest_28 rfl (fun h28 => ?_) (fun h28 => False.elim (by have := (i3_inj (by omega) (by omega)).mp h28; omega))
        refine v_aload_n (pc := 61) hX rfl d_Se_dearest_61 ?_
        refine v_iload_n (pc := 62) hX rfl d_Se_dearest_62 ?_
        refine g_putI (pc := 63) hX fl_Se_39 rfl (finI rfl rfl) (by assumption) rfl rfl d_Se_dearest_63 ?_
        rw [upM_up, upM_back2 hbp]
        refine v_iload (pc := 66) hX rfl d_Se_dearest_66 ?_
        exact f_iret (pc := 68) hX hR (by rw [hIk, dr_hit (by omega) (decide_eq_true (Nat.le_of_not_lt (fun q => h44 ((i3_lt (by omega) (by omega)).mpr q))))]) (rfl) d_Se_dearest_68
  · show VW X 19 [some (vR 19), some (vR 3), some (vR (6 + j)), some (vI (i3 p)), some (vI (i3 (mostN (okB J B) n nd nd hv))), some (vI (i3 p)), some (vI (i3 (9 - (9 - p))))] [] (gM (dM M j (9 - p)))
    have hIk : drN (fun v => decide (mostN (okB J B) n nd nd hv ≤ mvN J B n nd hv j v)) p 9 = drN (fun v => decide (mostN (okB J B) n nd nd hv ≤ mvN J B n nd hv j v)) p (9 - (9 - p)) := hIk
    refine v_iload (pc := 19) hX rfl d_Se_dearest_19 ?_
    refine v_iload_n (pc := 21) hX rfl d_Se_dearest_21 ?_
    refine v_icmp_le (pc := 22) (tgt := 61) hX d_Se_dearest_22 rfl (fun h22 => ?_) (fun h22 => False.elim (h22 ((i3_le (by omega) (by omega)).mpr (by omega))))
    refine v_aload_n (pc := 61) hX rfl d_Se_dearest_61 ?_
    refine v_iload_n (pc := 62) hX rfl d_Se_dearest_62 ?_
    refine g_putI (pc := 63) hX fl_Se_39 rfl (finI rfl rfl) (by assumption) rfl rfl d_Se_dearest_63 ?_
    rw [dM_up, upM_back2 hbp]
    refine v_iload (pc := 66) hX rfl d_Se_dearest_66 ?_
    exact f_iret (pc := 68) hX hR (by rw [hIk, dr_low _ _ _ (by omega)]) (rfl) d_Se_dearest_68
end
section
/-! A year. -/
def cpF (M : MM) (r : Nat) (f : Nat → Int32) (k : Nat) : MM := fun a i => if a = r ∧ i < k then f i else M a i
theorem cpF_0 (M : MM) (r : Nat) (f : Nat → Int32) : cpF M r f 0 = M := by
  funext a i
  simp [cpF]
theorem cpF_s (M : MM) (r : Nat) (f : Nat → Int32) (k : Nat) : cpF M r f (k + 1) = upM (cpF M r f k) r k (f k) := by
  funext a i
  simp only [cpF, upM]
  by_cases h : a = r ∧ i = k
  · rw [if_pos ⟨h.1, by omega⟩, if_pos h, h.2]
  · rw [if_neg h]
    by_cases h2 : a = r ∧ i < k
    · rw [if_pos h2, if_pos ⟨h2.1, by omega⟩]
    · rw [if_neg h2, if_neg (by omega)]
theorem cpF_ne {M : MM} {r : Nat} {f : Nat → Int32} {k a i : Nat} (h : a ≠ r) : cpF M r f k a i = M a i := if_neg (fun q => h q.1)
theorem cpF_in {M : MM} {r : Nat} {f : Nat → Int32} {k i : Nat} (h : i < k) : cpF M r f k r i = f i := if_pos ⟨rfl, h⟩
-- a year
def tdB (w : Int32) : Bool := rg w 0 3 || (rg w 10 15 || rg w 20 23)
theorem td_10 {w : Int32} : rg (w - 10) 0 5 = rg w 10 15 := by
  have h := Int32.toInt_sub w 10
  rw [q_10] at h
  have h1 := Int32.le_toInt w
  have h2 := Int32.toInt_le w
  have e1 : Int32.minValue.toInt = -2147483648 := by decide
  have e2 : Int32.maxValue.toInt = 2147483647 := by decide
  rw [Bool.eq_iff_iff, rg_true, rg_true, h]
  simp only [Int.bmod_def]
  omega
theorem td_20 {w : Int32} : rg (w - 20) 0 3 = rg w 20 23 := by
  have h := Int32.toInt_sub w 20
  rw [q_20] at h
  have h1 := Int32.le_toInt w
  have h2 := Int32.toInt_le w
  have e1 : Int32.minValue.toInt = -2147483648 := by decide
  have e2 : Int32.maxValue.toInt = 2147483647 := by decide
  rw [Bool.eq_iff_iff, rg_true, rg_true, h]
  simp only [Int.bmod_def]
  omega
theorem d_Sa_isTold_0 : decode c_Sa_isTold 0 = .ok (.iload_n 0, 1) := by decide +kernel
theorem d_Sa_isTold_1 : decode c_Sa_isTold 1 = .ok (.iconst 4, 1) := by decide +kernel
theorem d_Sa_isTold_2 : decode c_Sa_isTold 2 = .ok (.invokestatic 18, 3) := by decide +kernel
theorem d_Sa_isTold_5 : decode c_Sa_isTold 5 = .ok (.ifCond .ne 26, 3) := by decide +kernel
theorem d_Sa_isTold_8 : decode c_Sa_isTold 8 = .ok (.iload_n 0, 1) := by decide +kernel
theorem d_Sa_isTold_9 : decode c_Sa_isTold 9 = .ok (.bipush 10, 2) := by decide +kernel
theorem d_Sa_isTold_11 : decode c_Sa_isTold 11 = .ok (.isub, 1) := by decide +kernel
theorem d_Sa_isTold_12 : decode c_Sa_isTold 12 = .ok (.bipush 6, 2) := by decide +kernel
theorem d_Sa_isTold_14 : decode c_Sa_isTold 14 = .ok (.invokestatic 18, 3) := by decide +kernel
theorem d_Sa_isTold_17 : decode c_Sa_isTold 17 = .ok (.ifCond .ne 14, 3) := by decide +kernel
theorem d_Sa_isTold_20 : decode c_Sa_isTold 20 = .ok (.iload_n 0, 1) := by decide +kernel
theorem d_Sa_isTold_21 : decode c_Sa_isTold 21 = .ok (.bipush 20, 2) := by decide +kernel
theorem d_Sa_isTold_23 : decode c_Sa_isTold 23 = .ok (.isub, 1) := by decide +kernel
theorem d_Sa_isTold_24 : decode c_Sa_isTold 24 = .ok (.iconst 4, 1) := by decide +kernel
theorem d_Sa_isTold_25 : decode c_Sa_isTold 25 = .ok (.invokestatic 18, 3) := by decide +kernel
theorem d_Sa_isTold_28 : decode c_Sa_isTold 28 = .ok (.ifCond .eq 7, 3) := by decide +kernel
theorem d_Sa_isTold_31 : decode c_Sa_isTold 31 = .ok (.iconst 1, 1) := by decide +kernel
theorem d_Sa_isTold_32 : decode c_Sa_isTold 32 = .ok (.goto 4, 3) := by decide +kernel
theorem d_Sa_isTold_35 : decode c_Sa_isTold 35 = .ok (.iconst 0, 1) := by decide +kernel
theorem d_Sa_isTold_36 : decode c_Sa_isTold 36 = .ok (.ireturn, 1) := by decide +kernel
theorem C_Sa_isTold {M : MM} {v : Int32} : AF y_Sa_isTold c_Sa_isTold 1 (some .boolean) 2 [vI v] (M) (some (vI (bI (tdB v)))) (M) := by
  refine AF.of k_Sa_isTold (lo := [some (vI v)]) rfl (Nat.le_of_ble_eq_true rfl) (fun X hX hR => ?_)
  refine v_iload_n (pc := 0) hX rfl d_Sa_isTold_0 ?_
  refine v_iconst (pc := 1) (v := 4) hX (by decide) d_Sa_isTold_1 ?_
  refine f_callN (pc := 2) hX k_LJ_isBelow ks_LJ_isBelow (by decide) (C_LJ_isBelow) rfl rfl rfl (Nat.le_of_ble_eq_true rfl) (Nat.le_of_ble_eq_true rfl) (Nat.le_of_ble_eq_true rfl) d_Sa_isTold_2 ?_
  rw [show (4 : Int32).toInt - 1 = 3 from rfl]
  refine f_ifneB (pc := 5) (tgt := 31) hX d_Sa_isTold_5 rfl (fun h5 => ?_) (fun h5 => ?_)
  · have e : tdB v = true := by unfold tdB; rw [h5]; rfl
    refine v_iconst (pc := 31) (v := 1) hX (by decide) d_Sa_isTold_31 ?_
    refine v_goto (pc := 32) (tgt := 36) hX d_Sa_isTold_32 rfl ?_
    exact f_zret (pc := 36) hX hR (by first | exact bT e | exact bF e) (rfl) d_Sa_isTold_36
  · refine v_iload_n (pc := 8) hX rfl d_Sa_isTold_8 ?_
    refine v_bipush (pc := 9) (v := 10) hX (by decide) d_Sa_isTold_9 ?_
    refine v_isub (pc := 11) hX d_Sa_isTold_11 ?_
    refine v_bipush (pc := 12) (v := 6) hX (by decide) d_Sa_isTold_12 ?_
    refine f_callN (pc := 14) hX k_LJ_isBelow ks_LJ_isBelow (by decide) (C_LJ_isBelow) rfl rfl rfl (Nat.le_of_ble_eq_true rfl) (Nat.le_of_ble_eq_true rfl) (Nat.le_of_ble_eq_true rfl) d_Sa_isTold_14 ?_
    rw [show (6 : Int32).toInt - 1 = 5 from rfl, td_10]
    refine f_ifneB (pc := 17) (tgt := 31) hX d_Sa_isTold_17 rfl (fun h17 => ?_) (fun h17 => ?_)
    · have e : tdB v = true := by unfold tdB; rw [h5, h17]; rfl
      refine v_iconst (pc := 31) (v := 1) hX (by decide) d_Sa_isTold_31 ?_
      refine v_goto (pc := 32) (tgt := 36) hX d_Sa_isTold_32 rfl ?_
      exact f_zret (pc := 36) hX hR (by first | exact bT e | exact bF e) (rfl) d_Sa_isTold_36
    · refine v_iload_n (pc := 20) hX rfl d_Sa_isTold_20 ?_
      refine v_bipush (pc := 21) (v := 20) hX (by decide) d_Sa_isTold_21 ?_
      refine v_isub (pc := 23) hX d_Sa_isTold_23 ?_
      refine v_iconst (pc := 24) (v := 4) hX (by decide) d_Sa_isTold_24 ?_
      refine f_callN (pc := 25) hX k_LJ_isBelow ks_LJ_isBelow (by decide) (C_LJ_isBelow) rfl rfl rfl (Nat.le_of_ble_eq_true rfl) (Nat.le_of_ble_eq_true rfl) (Nat.le_of_ble_eq_true rfl) d_Sa_isTold_25 ?_
      rw [show (4 : Int32).toInt - 1 = 3 from rfl, td_20]
      refine f_ifeqB (pc := 28) (tgt := 35) hX d_Sa_isTold_28 rfl (fun h28 => ?_) (fun h28 => ?_)
      · have e : tdB v = false := by unfold tdB; rw [h5, h17, h28]; rfl
        refine v_iconst (pc := 35) (v := 0) hX (by decide) d_Sa_isTold_35 ?_
        exact f_zret (pc := 36) hX hR (by first | exact bT e | exact bF e) (rfl) d_Sa_isTold_36
      · have e : tdB v = true := by unfold tdB; rw [h5, h17, h28]; rfl
        refine v_iconst (pc := 31) (v := 1) hX (by decide) d_Sa_isTold_31 ?_
        refine v_goto (pc := 32) (tgt := 36) hX d_Sa_isTold_32 rfl ?_
        exact f_zret (pc := 36) hX hR (by first | exact bT e | exact bF e) (rfl) d_Sa_isTold_36
theorem i3_dbl (a p : Nat) : i3 a + 2 * i3 p = i3 (a + 2 * p) := by rw [i3_add, i3_mul]; rfl
theorem C_Sp_deciderAt_any {M : MM} {n : Nat} {x : Int32} (hn : n ≤ 4) (hM : M 3 3 = i3 n) : AF y_Sp_deciderAt c_Sp_deciderAt 2 (some (.object "LastJars$Decider")) 2 [vR 3, vI x] M (some (vR (if rg x 0 ((n : Int) - 1) = true then 12 + x.toNatClampNeg else 0))) M := by
  by_cases h : rg x 0 ((n : Int) - 1) = true
  · rw [if_pos h]
    obtain ⟨k, hk, rfl⟩ := rg_in (by omega) h
    rw [(IX.of hk (by omega)).1]
    exact C_Sp_deciderAt_in hn hM hk
  · rw [if_neg h]
    exact C_Sp_deciderAt_out hn hM (by simpa using h)
theorem C_Sp_jarAt_any {M : MM} {n : Nat} {x : Int32} (hn : n ≤ 6) (hM : M 3 2 = i3 n) : AF y_Sp_jarAt c_Sp_jarAt 2 (some (.object "LastJars$Jar")) 2 [vR 3, vI x] M (some (vR (if rg x 0 ((n : Int) - 1) = true then 6 + x.toNatClampNeg else 0))) M := by
  by_cases h : rg x 0 ((n : Int) - 1) = true
  · rw [if_pos h]
    obtain ⟨k, hk, rfl⟩ := rg_in (by omega) h
    rw [(IX.of hk (by omega)).1]
    exact C_Sp_jarAt_in hn hM hk
  · rw [if_neg h]
    exact C_Sp_jarAt_out hn hM (by simpa using h)
theorem d_Sa_buyerOf_0 : decode c_Sa_buyerOf 0 = .ok (.aload_n 0, 1) := by decide +kernel
theorem d_Sa_buyerOf_1 : decode c_Sa_buyerOf 1 = .ok (.aload_n 1, 1) := by decide +kernel
theorem d_Sa_buyerOf_2 : decode c_Sa_buyerOf 2 = .ok (.iload_n 2, 1) := by decide +kernel
theorem d_Sa_buyerOf_3 : decode c_Sa_buyerOf 3 = .ok (.iconst 2, 1) := by decide +kernel
theorem d_Sa_buyerOf_4 : decode c_Sa_buyerOf 4 = .ok (.iload_n 3, 1) := by decide +kernel
theorem d_Sa_buyerOf_5 : decode c_Sa_buyerOf 5 = .ok (.imul, 1) := by decide +kernel
theorem d_Sa_buyerOf_6 : decode c_Sa_buyerOf 6 = .ok (.iadd, 1) := by decide +kernel
theorem d_Sa_buyerOf_7 : decode c_Sa_buyerOf 7 = .ok (.invokevirtual 30, 3) := by decide +kernel
theorem d_Sa_buyerOf_10 : decode c_Sa_buyerOf 10 = .ok (.invokevirtual 36, 3) := by decide +kernel
theorem d_Sa_buyerOf_13 : decode c_Sa_buyerOf 13 = .ok (.areturn, 1) := by decide +kernel
theorem C_Sa_buyerOf {M : MM} {n nd r c a m p : Nat} {J B : JT} {q : Nat → Int32} (hJ : CJ M n J) (hB : CB M nd B) (hr : SH[r]? = some (0, 5)) (hn : NF r 0 = c) (hc : SH[c]? = some (1, 60)) (ha : a + 2 * m ≤ 60) (hq : ∀ t, t < 2 * m → M c (a + t) = q t) (hp : p < m) : AF y_Sa_buyerOf c_Sa_buyerOf 4 (some (.object "LastJars$Decider")) 3 [vR 3, vR r, vI (i3 a), vI (i3 p)] (M) (some (vR (if rg (q (2 * p)) 0 ((nd : Int) - 1) = true then 12 + (q (2 * p)).toNatClampNeg else 0))) (M) := by
  refine AF.of k_Sa_buyerOf (lo := [some (vR 3), some (vR r), some (vI (i3 a)), some (vI (i3 p))]) rfl (Nat.le_of_ble_eq_true rfl) (fun X hX hR => ?_)
  refine v_aload_n (pc := 0) hX rfl d_Sa_buyerOf_0 ?_
  refine v_aload_n (pc := 1) hX rfl d_Sa_buyerOf_1 ?_
  refine v_iload_n (pc := 2) hX rfl d_Sa_buyerOf_2 ?_
  refine v_iconst (pc := 3) (v := 2) hX (by decide) d_Sa_buyerOf_3 ?_
  refine v_iload_n (pc := 4) hX rfl d_Sa_buyerOf_4 ?_
  refine v_imul (pc := 5) hX d_Sa_buyerOf_5 ?_
  refine v_iadd (pc := 6) hX d_Sa_buyerOf_6 ?_
  rw [i3_dbl]
  refine f_callV (pc := 7) hX k_Sh_at ki_Sh_at kv_Sh_at ml_Sa_30 (C_Sh_at (j := a + 2 * p) hr hn hc (by omega)) (by assumption) rfl rfl rfl rfl (Nat.le_of_ble_eq_true rfl) (Nat.le_of_ble_eq_true rfl) (Nat.le_of_ble_eq_true rfl) d_Sa_buyerOf_7 ?_
  rw [show a + 2 * p = a + (2 * p) by omega, hq _ (by omega)]
  refine f_callV (pc := 10) hX k_Sp_deciderAt ki_Sp_deciderAt kv_Sp_deciderAt ml_Sa_36 (C_Sp_deciderAt_any hB.1 hB.2.1) rfl rfl rfl rfl rfl (Nat.le_of_ble_eq_true rfl) (Nat.le_of_ble_eq_true rfl) (Nat.le_of_ble_eq_true rfl) d_Sa_buyerOf_10 ?_
  exact f_aret (pc := 13) hX hR (rfl) (rfl) d_Sa_buyerOf_13
theorem C_Sa_buyerOf_in {M : MM} {n nd r c a m p k : Nat} {J B : JT} {q : Nat → Int32} (hJ : CJ M n J) (hB : CB M nd B) (hr : SH[r]? = some (0, 5)) (hn : NF r 0 = c) (hc : SH[c]? = some (1, 60)) (ha : a + 2 * m ≤ 60) (hq : ∀ t, t < 2 * m → M c (a + t) = q t) (hp : p < m) (hk : k < nd) (hqk : q (2 * p) = i3 k) : AF y_Sa_buyerOf c_Sa_buyerOf 4 (some (.object "LastJars$Decider")) 3 [vR 3, vR r, vI (i3 a), vI (i3 p)] (M) (some (vR (12 + k))) (M) := by
  refine AF.of k_Sa_buyerOf (lo := [some (vR 3), some (vR r), some (vI (i3 a)), some (vI (i3 p))]) rfl (Nat.le_of_ble_eq_true rfl) (fun X hX hR => ?_)
  refine v_aload_n (pc := 0) hX rfl d_Sa_buyerOf_0 ?_
  refine v_aload_n (pc := 1) hX rfl d_Sa_buyerOf_1 ?_
  refine v_iload_n (pc := 2) hX rfl d_Sa_buyerOf_2 ?_
  refine v_iconst (pc := 3) (v := 2) hX (by decide) d_Sa_buyerOf_3 ?_
  refine v_iload_n (pc := 4) hX rfl d_Sa_buyerOf_4 ?_
  refine v_imul (pc := 5) hX d_Sa_buyerOf_5 ?_
  refine v_iadd (pc := 6) hX d_Sa_buyerOf_6 ?_
  rw [i3_dbl]
  refine f_callV (pc := 7) hX k_Sh_at ki_Sh_at kv_Sh_at ml_Sa_30 (C_Sh_at (j := a + 2 * p) hr hn hc (by omega)) (by assumption) rfl rfl rfl rfl (Nat.le_of_ble_eq_true rfl) (Nat.le_of_ble_eq_true rfl) (Nat.le_of_ble_eq_true rfl) d_Sa_buyerOf_7 ?_
  rw [show a + 2 * p = a + (2 * p) by omega, hq _ (by omega), hqk]
  refine f_callV (pc := 10) hX k_Sp_deciderAt ki_Sp_deciderAt kv_Sp_deciderAt ml_Sa_36 (C_Sp_deciderAt_in hB.1 hB.2.1 hk) rfl rfl rfl rfl rfl (Nat.le_of_ble_eq_true rfl) (Nat.le_of_ble_eq_true rfl) (Nat.le_of_ble_eq_true rfl) d_Sa_buyerOf_10 ?_
  exact f_aret (pc := 13) hX hR (rfl) (rfl) d_Sa_buyerOf_13
theorem d_Sa_jarOf_0 : decode c_Sa_jarOf 0 = .ok (.aload_n 0, 1) := by decide +kernel
theorem d_Sa_jarOf_1 : decode c_Sa_jarOf 1 = .ok (.aload_n 1, 1) := by decide +kernel
theorem d_Sa_jarOf_2 : decode c_Sa_jarOf 2 = .ok (.iload_n 2, 1) := by decide +kernel
theorem d_Sa_jarOf_3 : decode c_Sa_jarOf 3 = .ok (.iconst 2, 1) := by decide +kernel
theorem d_Sa_jarOf_4 : decode c_Sa_jarOf 4 = .ok (.iload_n 3, 1) := by decide +kernel
theorem d_Sa_jarOf_5 : decode c_Sa_jarOf 5 = .ok (.imul, 1) := by decide +kernel
theorem d_Sa_jarOf_6 : decode c_Sa_jarOf 6 = .ok (.iadd, 1) := by decide +kernel
theorem d_Sa_jarOf_7 : decode c_Sa_jarOf 7 = .ok (.iconst 1, 1) := by decide +kernel
theorem d_Sa_jarOf_8 : decode c_Sa_jarOf 8 = .ok (.iadd, 1) := by decide +kernel
theorem d_Sa_jarOf_9 : decode c_Sa_jarOf 9 = .ok (.invokevirtual 30, 3) := by decide +kernel
theorem d_Sa_jarOf_12 : decode c_Sa_jarOf 12 = .ok (.invokevirtual 42, 3) := by decide +kernel
theorem d_Sa_jarOf_15 : decode c_Sa_jarOf 15 = .ok (.areturn, 1) := by decide +kernel
theorem C_Sa_jarOf {M : MM} {n nd r c a m p : Nat} {J B : JT} {q : Nat → Int32} (hJ : CJ M n J) (hB : CB M nd B) (hr : SH[r]? = some (0, 5)) (hn : NF r 0 = c) (hc : SH[c]? = some (1, 60)) (ha : a + 2 * m ≤ 60) (hq : ∀ t, t < 2 * m → M c (a + t) = q t) (hp : p < m) : AF y_Sa_jarOf c_Sa_jarOf 4 (some (.object "LastJars$Jar")) 3 [vR 3, vR r, vI (i3 a), vI (i3 p)] (M) (some (vR (if rg (q (2 * p + 1)) 0 ((n : Int) - 1) = true then 6 + (q (2 * p + 1)).toNatClampNeg else 0))) (M) := by
  refine AF.of k_Sa_jarOf (lo := [some (vR 3), some (vR r), some (vI (i3 a)), some (vI (i3 p))]) rfl (Nat.le_of_ble_eq_true rfl) (fun X hX hR => ?_)
  refine v_aload_n (pc := 0) hX rfl d_Sa_jarOf_0 ?_
  refine v_aload_n (pc := 1) hX rfl d_Sa_jarOf_1 ?_
  refine v_iload_n (pc := 2) hX rfl d_Sa_jarOf_2 ?_
  refine v_iconst (pc := 3) (v := 2) hX (by decide) d_Sa_jarOf_3 ?_
  refine v_iload_n (pc := 4) hX rfl d_Sa_jarOf_4 ?_
  refine v_imul (pc := 5) hX d_Sa_jarOf_5 ?_
  refine v_iadd (pc := 6) hX d_Sa_jarOf_6 ?_
  refine v_iconst (pc := 7) (v := 1) hX (by decide) d_Sa_jarOf_7 ?_
  refine v_iadd (pc := 8) hX d_Sa_jarOf_8 ?_
  rw [i3_dbl, ← i3_succ]
  refine f_callV (pc := 9) hX k_Sh_at ki_Sh_at kv_Sh_at ml_Sa_30 (C_Sh_at (j := a + 2 * p + 1) hr hn hc (by omega)) (by assumption) rfl rfl rfl rfl (Nat.le_of_ble_eq_true rfl) (Nat.le_of_ble_eq_true rfl) (Nat.le_of_ble_eq_true rfl) d_Sa_jarOf_9 ?_
  rw [show a + 2 * p + 1 = a + (2 * p + 1) by omega, hq _ (by omega)]
  refine f_callV (pc := 12) hX k_Sp_jarAt ki_Sp_jarAt kv_Sp_jarAt ml_Sa_42 (C_Sp_jarAt_any hJ.1 hJ.2.1) rfl rfl rfl rfl rfl (Nat.le_of_ble_eq_true rfl) (Nat.le_of_ble_eq_true rfl) (Nat.le_of_ble_eq_true rfl) d_Sa_jarOf_12 ?_
  exact f_aret (pc := 15) hX hR (rfl) (rfl) d_Sa_jarOf_15
theorem C_Sa_jarOf_in {M : MM} {n nd r c a m p k : Nat} {J B : JT} {q : Nat → Int32} (hJ : CJ M n J) (hB : CB M nd B) (hr : SH[r]? = some (0, 5)) (hn : NF r 0 = c) (hc : SH[c]? = some (1, 60)) (ha : a + 2 * m ≤ 60) (hq : ∀ t, t < 2 * m → M c (a + t) = q t) (hp : p < m) (hk : k < n) (hqk : q (2 * p + 1) = i3 k) : AF y_Sa_jarOf c_Sa_jarOf 4 (some (.object "LastJars$Jar")) 3 [vR 3, vR r, vI (i3 a), vI (i3 p)] (M) (some (vR (6 + k))) (M) := by
  refine AF.of k_Sa_jarOf (lo := [some (vR 3), some (vR r), some (vI (i3 a)), some (vI (i3 p))]) rfl (Nat.le_of_ble_eq_true rfl) (fun X hX hR => ?_)
  refine v_aload_n (pc := 0) hX rfl d_Sa_jarOf_0 ?_
  refine v_aload_n (pc := 1) hX rfl d_Sa_jarOf_1 ?_
  refine v_iload_n (pc := 2) hX rfl d_Sa_jarOf_2 ?_
  refine v_iconst (pc := 3) (v := 2) hX (by decide) d_Sa_jarOf_3 ?_
  refine v_iload_n (pc := 4) hX rfl d_Sa_jarOf_4 ?_
  refine v_imul (pc := 5) hX d_Sa_jarOf_5 ?_
  refine v_iadd (pc := 6) hX d_Sa_jarOf_6 ?_
  refine v_iconst (pc := 7) (v := 1) hX (by decide) d_Sa_jarOf_7 ?_
  refine v_iadd (pc := 8) hX d_Sa_jarOf_8 ?_
  rw [i3_dbl, ← i3_succ]
  refine f_callV (pc := 9) hX k_Sh_at ki_Sh_at kv_Sh_at ml_Sa_30 (C_Sh_at (j := a + 2 * p + 1) hr hn hc (by omega)) (by assumption) rfl rfl rfl rfl (Nat.le_of_ble_eq_true rfl) (Nat.le_of_ble_eq_true rfl) (Nat.le_of_ble_eq_true rfl) d_Sa_jarOf_9 ?_
  rw [show a + 2 * p + 1 = a + (2 * p + 1) by omega, hq _ (by omega), hqk]
  refine f_callV (pc := 12) hX k_Sp_jarAt ki_Sp_jarAt kv_Sp_jarAt ml_Sa_42 (C_Sp_jarAt_in hJ.1 hJ.2.1 hk) rfl rfl rfl rfl rfl (Nat.le_of_ble_eq_true rfl) (Nat.le_of_ble_eq_true rfl) (Nat.le_of_ble_eq_true rfl) d_Sa_jarOf_12 ?_
  exact f_aret (pc := 15) hX hR (rfl) (rfl) d_Sa_jarOf_15
theorem if0 {b : Bool} {x y : Nat} (h : (if b = true then (x + y) else 0) = 0) (hx : x ≠ 0 := by decide) : b = false := by
  cases b
  · rfl
  · simp at h; omega
theorem if1 {b : Bool} {x : Nat} (h : ¬ (if b = true then x else 0) = 0) : b = true := by
  cases b
  · exact absurd rfl h
  · rfl
theorem d_Sa_areAllThere_0 : decode c_Sa_areAllThere 0 = .ok (.iconst 0, 1) := by decide +kernel
theorem d_Sa_areAllThere_1 : decode c_Sa_areAllThere 1 = .ok (.istore 4, 2) := by decide +kernel
theorem d_Sa_areAllThere_3 : decode c_Sa_areAllThere 3 = .ok (.iload 4, 2) := by decide +kernel
theorem d_Sa_areAllThere_5 : decode c_Sa_areAllThere 5 = .ok (.iload_n 3, 1) := by decide +kernel
theorem d_Sa_areAllThere_6 : decode c_Sa_areAllThere 6 = .ok (.if_icmp .ge 33, 3) := by decide +kernel
theorem d_Sa_areAllThere_9 : decode c_Sa_areAllThere 9 = .ok (.aload_n 0, 1) := by decide +kernel
theorem d_Sa_areAllThere_10 : decode c_Sa_areAllThere 10 = .ok (.aload_n 1, 1) := by decide +kernel
theorem d_Sa_areAllThere_11 : decode c_Sa_areAllThere 11 = .ok (.iload_n 2, 1) := by decide +kernel
theorem d_Sa_areAllThere_12 : decode c_Sa_areAllThere 12 = .ok (.iload 4, 2) := by decide +kernel
theorem d_Sa_areAllThere_14 : decode c_Sa_areAllThere 14 = .ok (.invokestatic 22, 3) := by decide +kernel
theorem d_Sa_areAllThere_17 : decode c_Sa_areAllThere 17 = .ok (.ifnull 14, 3) := by decide +kernel
theorem d_Sa_areAllThere_20 : decode c_Sa_areAllThere 20 = .ok (.aload_n 0, 1) := by decide +kernel
theorem d_Sa_areAllThere_21 : decode c_Sa_areAllThere 21 = .ok (.aload_n 1, 1) := by decide +kernel
theorem d_Sa_areAllThere_22 : decode c_Sa_areAllThere 22 = .ok (.iload_n 2, 1) := by decide +kernel
theorem d_Sa_areAllThere_23 : decode c_Sa_areAllThere 23 = .ok (.iload 4, 2) := by decide +kernel
theorem d_Sa_areAllThere_25 : decode c_Sa_areAllThere 25 = .ok (.invokestatic 26, 3) := by decide +kernel
theorem d_Sa_areAllThere_28 : decode c_Sa_areAllThere 28 = .ok (.ifnonnull 5, 3) := by decide +kernel
theorem d_Sa_areAllThere_31 : decode c_Sa_areAllThere 31 = .ok (.iconst 0, 1) := by decide +kernel
theorem d_Sa_areAllThere_32 : decode c_Sa_areAllThere 32 = .ok (.ireturn, 1) := by decide +kernel
theorem d_Sa_areAllThere_33 : decode c_Sa_areAllThere 33 = .ok (.iinc 4 1, 3) := by decide +kernel
theorem d_Sa_areAllThere_36 : decode c_Sa_areAllThere 36 = .ok (.goto (-33), 3) := by decide +kernel
theorem d_Sa_areAllThere_39 : decode c_Sa_areAllThere 39 = .ok (.iconst 1, 1) := by decide +kernel
theorem d_Sa_areAllThere_40 : decode c_Sa_areAllThere 40 = .ok (.ireturn, 1) := by decide +kernel
theorem C_Sa_areAllThere {M : MM} {n nd r c a m : Nat} {J B : JT} {q : Nat → Int32} (hJ : CJ M n J) (hB : CB M nd B) (hr : SH[r]? = some (0, 5)) (hn : NF r 0 = c) (hc : SH[c]? = some (1, 60)) (ha : a + 2 * m ≤ 60) (hq : ∀ t, t < 2 * m → M c (a + t) = q t) : AF y_Sa_areAllThere c_Sa_areAllThere 5 (some .boolean) 4 [vR 3, vR r, vI (i3 a), vI (i3 m)] (M) (some (vI (bI (allB (fun p => rg (q (2 * p)) 0 ((nd : Int) - 1) && rg (q (2 * p + 1)) 0 ((n : Int) - 1)) m)))) (M) := by
  refine AF.of k_Sa_areAllThere (lo := [some (vR 3), some (vR r), some (vI (i3 a)), some (vI (i3 m)), none]) rfl (Nat.le_of_ble_eq_true rfl) (fun X hX hR => ?_)
  refine v_iconst (pc := 0) (v := 0) hX (by decide) d_Sa_areAllThere_0 ?_
  refine v_istore (pc := 1) (lo' := [some (vR _), some (vR _), some (vI _), some (vI _), some (vI _)]) hX (Nat.le_of_ble_eq_true rfl) rfl d_Sa_areAllThere_1 ?_
  refine VW.cast (lo' := [some (vR 3), some (vR r), some (vI (i3 a)), some (vI (i3 m)), some (vI (i3 0))]) (st' := []) (G' := gM (M)) rfl rfl rfl ?_
  refine v_forI (X := X) (head := 3) (m) (fun kk => [some (vR 3), some (vR r), some (vI (i3 a)), some (vI (i3 m)), some (vI (i3 kk))]) (fun kk => M) (fun kk => allB (fun p => rg (q (2 * p)) 0 ((nd : Int) - 1) && rg (q (2 * p + 1)) 0 ((n : Int) - 1)) kk = true) (rfl) (fun k hk hIk ih3 => ?_) (fun hIk => ?_)
  · show VW X 3 [some (vR 3), some (vR r), some (vI (i3 a)), some (vI (i3 m)), some (vI (i3 k))] [] (gM (M))
    have hIk : allB (fun p => rg (q (2 * p)) 0 ((nd : Int) - 1) && rg (q (2 * p + 1)) 0 ((n : Int) - 1)) k = true := hIk
    refine v_iload (pc := 3) hX rfl d_Sa_areAllThere_3 ?_
    refine v_iload_n (pc := 5) hX rfl d_Sa_areAllThere_5 ?_
    refine v_icmp_ge (pc := 6) (tgt := 39) hX d_Sa_areAllThere_6 rfl (fun h6 => False.elim (i3_ge_abs hk (by omega) h6)) (fun h6 => ?_)
    refine v_aload_n (pc := 9) hX rfl d_Sa_areAllThere_9 ?_
    refine v_aload_n (pc := 10) hX rfl d_Sa_areAllThere_10 ?_
    refine v_iload_n (pc := 11) hX rfl d_Sa_areAllThere_11 ?_
    refine v_iload (pc := 12) hX rfl d_Sa_areAllThere_12 ?_
    refine f_callS (pc := 14) hX k_Sa_buyerOf ks_Sa_buyerOf ml_Sa_22 (C_Sa_buyerOf hJ hB hr hn hc ha hq hk) rfl rfl rfl (Nat.le_of_ble_eq_true rfl) (Nat.le_of_ble_eq_true rfl) (Nat.le_of_ble_eq_true rfl) d_Sa_areAllThere_14 ?_
    refine v_ifnull (pc := 17) (tgt := 31) hX d_Sa_areAllThere_17 rfl (fun h17 => ?_) (fun h17 => ?_)
    · have b1 : rg (q (2 * k)) 0 ((nd : Int) - 1) = false := if0 h17
      have e : allB (fun p => rg (q (2 * p)) 0 ((nd : Int) - 1) && rg (q (2 * p + 1)) 0 ((n : Int) - 1)) m = false := allB_no hk (by rw [b1]; rfl)
      refine v_iconst (pc := 31) (v := 0) hX (by decide) d_Sa_areAllThere_31 ?_
      exact f_zret (pc := 32) hX hR (bF e) (rfl) d_Sa_areAllThere_32
    · have b1 : rg (q (2 * k)) 0 ((nd : Int) - 1) = true := if1 h17
      refine v_aload_n (pc := 20) hX rfl d_Sa_areAllThere_20 ?_
      refine v_aload_n (pc := 21) hX rfl d_Sa_areAllThere_21 ?_
      refine v_iload_n (pc := 22) hX rfl d_Sa_areAllThere_22 ?_
      refine v_iload (pc := 23) hX rfl d_Sa_areAllThere_23 ?_
      refine f_callS (pc := 25) hX k_Sa_jarOf ks_Sa_jarOf ml_Sa_26 (C_Sa_jarOf hJ hB hr hn hc ha hq hk) rfl rfl rfl (Nat.le_of_ble_eq_true rfl) (Nat.le_of_ble_eq_true rfl) (Nat.le_of_ble_eq_true rfl) d_Sa_areAllThere_25 ?_
      refine v_ifnonnull (pc := 28) (tgt := 33) hX d_Sa_areAllThere_28 rfl (fun h28 => ?_) (fun h28 => ?_)
      · have b2 : rg (q (2 * k + 1)) 0 ((n : Int) - 1) = true := if1 h28
        refine v_iinc (pc := 33) (lo' := [some (vR _), some (vR _), some (vI _), some (vI _), some (vI _)]) hX rfl rfl d_Sa_areAllThere_33 ?_
        refine v_goto (pc := 36) (tgt := 3) hX d_Sa_areAllThere_36 rfl ?_
        exact VW.cast (by rw [i3_succ]; rfl) rfl rfl (ih3 (allB_s hIk (by rw [b1, b2]; rfl)))
      · have b2 : rg (q (2 * k + 1)) 0 ((n : Int) - 1) = false := if0 h28
        have e : allB (fun p => rg (q (2 * p)) 0 ((nd : Int) - 1) && rg (q (2 * p + 1)) 0 ((n : Int) - 1)) m = false := allB_no hk (by rw [b2]; simp)
        refine v_iconst (pc := 31) (v := 0) hX (by decide) d_Sa_areAllThere_31 ?_
        exact f_zret (pc := 32) hX hR (bF e) (rfl) d_Sa_areAllThere_32
  · show VW X 3 [some (vR 3), some (vR r), some (vI (i3 a)), some (vI (i3 m)), some (vI (i3 (m)))] [] (gM (M))
    have hIk : allB (fun p => rg (q (2 * p)) 0 ((nd : Int) - 1) && rg (q (2 * p + 1)) 0 ((n : Int) - 1)) (m) = true := hIk
    refine v_iload (pc := 3) hX rfl d_Sa_areAllThere_3 ?_
    refine v_iload_n (pc := 5) hX rfl d_Sa_areAllThere_5 ?_
    refine v_icmp_ge (pc := 6) (tgt := 39) hX d_Sa_areAllThere_6 rfl (fun h6 => ?_) (fun h6 => False.elim (absurd (Int32.le_refl _) h6))
    refine v_iconst (pc := 39) (v := 1) hX (by decide) d_Sa_areAllThere_39 ?_
    exact f_zret (pc := 40) hX hR (bT hIk) (rfl) d_Sa_areAllThere_40
abbrev YS : Type := ((Nat → Int32) × (Nat → Int32)) × (Int32 × Int32) × Nat
def upF (f : Nat → Int32) (k : Nat) (x : Int32) : Nat → Int32 := fun i => if i = k then x else f i
def ycan (J : JT) (b j : Nat) (s : YS) : Bool := decide (0 < s.1.1 j) && decide (J j 4 ≤ s.1.2 b)
def yst (J B : JT) (b j p : Nat) (s : YS) : YS := if s.2.2 = 0 then (if ycan J b j s = true then ((upF s.1.1 j (s.1.1 j - 1), upF s.1.2 b (s.1.2 b - J j 4)), (s.2.1.1 + bI (dkB J B j b), s.2.1.2 + J j 4), 0) else (s.1, s.2.1, p + 1)) else s
def yr (J B : JT) (pb pj : Nat → Nat) : Nat → YS
  | 0 => ((fun j => J j 3, fun b => B b 2), (0, 0), 0)
  | p + 1 => yst J B (pb p) (pj p) p (yr J B pb pj p)
theorem yr_stay {J B : JT} {pb pj : Nat → Nat} {k : Nat} (h : (yr J B pb pj k).2.2 ≠ 0) : ∀ m, k ≤ m → yr J B pb pj m = yr J B pb pj k := by
  intro m hm
  induction m with
  | zero => rw [show k = 0 by omega]
  | succ m ih =>
    by_cases e : k = m + 1
    · rw [e]
    · have h2 := ih (by omega)
      show yst J B (pb m) (pj m) m (yr J B pb pj m) = _
      rw [h2]
      unfold yst
      rw [if_neg h]
theorem yr_le (J B : JT) (pb pj : Nat → Nat) : ∀ m, (yr J B pb pj m).2.2 ≤ m
  | 0 => Nat.le_refl _
  | m + 1 => by
    have := yr_le J B pb pj m
    show (yst J B (pb m) (pj m) m (yr J B pb pj m)).2.2 ≤ _
    unfold yst
    split
    · split
      · exact Nat.zero_le _
      · exact Nat.le_refl _
    · omega
/-- the year's own cells -/
def YM (M : MM) (n nd : Nat) (s : YS) : MM := fun a i =>
  if a = 17 ∧ i < 6 then (if i < n then s.1.1 i else M (6 + i) 3)
  else if a = 18 ∧ i < 4 then (if i < nd then s.1.2 i else M (12 + i) 2)
  else if a = 16 ∧ i = 2 then (if s.2.2 = 0 then -9 else i3 (s.2.2 - 1))
  else if a = 16 ∧ i = 3 then s.2.1.1
  else if a = 16 ∧ i = 4 then s.2.1.2
  else M a i
theorem YM_ne {M : MM} {n nd : Nat} {s : YS} {a i : Nat} (h : a < 16 ∨ 18 < a) : YM M n nd s a i = M a i := by
  unfold YM
  rw [if_neg (by omega), if_neg (by omega), if_neg (by omega), if_neg (by omega), if_neg (by omega)]
theorem YM_h {M : MM} {n nd : Nat} {s : YS} {i : Nat} (h : i < n) (h6 : n ≤ 6) : YM M n nd s 17 i = s.1.1 i := by
  unfold YM
  rw [if_pos (by omega), if_pos h]
theorem YM_p {M : MM} {n nd : Nat} {s : YS} {i : Nat} (h : i < nd) (h4 : nd ≤ 4) : YM M n nd s 18 i = s.1.2 i := by
  unfold YM
  rw [if_neg (by omega), if_pos (by omega), if_pos h]
theorem YM_2 {M : MM} {n nd : Nat} {s : YS} : YM M n nd s 16 2 = (if s.2.2 = 0 then -9 else i3 (s.2.2 - 1)) := by
  unfold YM
  rw [if_neg (by omega), if_neg (by omega), if_pos (by omega)]
theorem YM_3 {M : MM} {n nd : Nat} {s : YS} : YM M n nd s 16 3 = s.2.1.1 := by
  unfold YM
  rw [if_neg (by omega), if_neg (by omega), if_neg (by omega), if_pos (by omega)]
theorem YM_4 {M : MM} {n nd : Nat} {s : YS} : YM M n nd s 16 4 = s.2.1.2 := by
  unfold YM
  rw [if_neg (by omega), if_neg (by omega), if_neg (by omega), if_neg (by omega), if_pos (by omega)]
def bgY (M : MM) : MM := upM (upM (upM M 16 2 (-9)) 16 3 0) 16 4 0
theorem bgY_ne {M : MM} {a i : Nat} (h : a ≠ 16) : bgY M a i = M a i := by
  unfold bgY
  rw [upM_ne (by omega), upM_ne (by omega), upM_ne (by omega)]
theorem YM_0 {M : MM} {n nd : Nat} {J B : JT} {pb pj : Nat → Nat} (hJ : CJ M n J) (hB : CB M nd B) : cpF (cpF (bgY M) 17 (fun i => M (6 + i) 3) 6) 18 (fun i => M (12 + i) 2) 4 = YM M n nd (yr J B pb pj 0) := by
  funext a i
  unfold YM cpF bgY upM
  by_cases h1 : a = 18 ∧ i < 4
  · rw [if_pos h1, if_neg (by omega), if_pos h1]
    by_cases h2 : i < nd
    · rw [if_pos h2]; exact hB.2.2 i h2 2 (by decide)
    · rw [if_neg h2]
  · rw [if_neg h1]
    by_cases h3 : a = 17 ∧ i < 6
    · rw [if_pos h3, if_pos h3]
      by_cases h2 : i < n
      · rw [if_pos h2]; exact hJ.2.2 i h2 3 (by decide)
      · rw [if_neg h2]
    · rw [if_neg h3, if_neg h3, if_neg h1]
      by_cases h4 : a = 16 ∧ i = 4
      · rw [if_pos h4, if_neg (by omega), if_neg (by omega), if_pos h4]; rfl
      · rw [if_neg h4]
        by_cases h5 : a = 16 ∧ i = 3
        · rw [if_pos h5, if_neg (by omega), if_pos h5]; rfl
        · rw [if_neg h5]
          by_cases h7 : a = 16 ∧ i = 2
          · rw [if_pos h7, if_pos h7]; rfl
          · rw [if_neg h7, if_neg h7, if_neg h5, if_neg h4]
theorem YM_take {M : MM} {n nd b j p : Nat} {J B : JT} {s : YS} (h6 : n ≤ 6) (h4 : nd ≤ 4) (hj : j < n) (hb : b < nd) (h0 : s.2.2 = 0) (hc : ycan J b j s = true) {x : Int32} (hx : x = bI (dkB J B j b)) :
    upM (upM (upM (upM (YM M n nd s) 17 j (s.1.1 j - 1)) 18 b (s.1.2 b - J j 4)) 16 4 (s.2.1.2 + J j 4)) 16 3 (s.2.1.1 + x) = YM M n nd (yst J B b j p s) := by
  subst hx
  have e : yst J B b j p s = ((upF s.1.1 j (s.1.1 j - 1), upF s.1.2 b (s.1.2 b - J j 4)), (s.2.1.1 + bI (dkB J B j b), s.2.1.2 + J j 4), 0) := by
    unfold yst; rw [if_pos h0, if_pos hc]
  rw [e]
  funext a i
  unfold upM YM
  by_cases h1 : a = 16
  · subst h1
    by_cases i3' : i = 3
    · subst i3'; simp
    · by_cases i4 : i = 4
      · subst i4; simp
      · simp [i3', i4, h0]
  · by_cases h2 : a = 18
    · subst h2
      by_cases hi : i = b
      · subst hi
        simp [upF, hb, show i < 4 by omega]
      · simp [upF, hi]
    · by_cases h3 : a = 17
      · subst h3
        by_cases hi : i = j
        · subst hi
          simp [upF, hj, show i < 6 by omega]
        · simp [upF, hi]
      · simp [h1, h2, h3]
theorem YM_wrong {M : MM} {n nd b j p : Nat} {J B : JT} {s : YS} (h0 : s.2.2 = 0) (hc : ycan J b j s = false) : upM (YM M n nd s) 16 2 (i3 p) = YM M n nd (yst J B b j p s) := by
  have e : yst J B b j p s = (s.1, s.2.1, p + 1) := by
    unfold yst; rw [if_pos h0, hc]; rfl
  rw [e]
  funext a i
  unfold upM YM
  by_cases h1 : a = 16
  · subst h1
    by_cases i3' : i = 2
    · subst i3'; simp
    · simp [i3']
  · simp [h1]
theorem d_Sa_begin_0 : decode c_Sa_begin 0 = .ok (.aload_n 0, 1) := by decide +kernel
theorem d_Sa_begin_1 : decode c_Sa_begin 1 = .ok (.bipush (-9), 2) := by decide +kernel
theorem d_Sa_begin_3 : decode c_Sa_begin 3 = .ok (.putfield 50, 3) := by decide +kernel
theorem d_Sa_begin_6 : decode c_Sa_begin 6 = .ok (.aload_n 0, 1) := by decide +kernel
theorem d_Sa_begin_7 : decode c_Sa_begin 7 = .ok (.iconst 0, 1) := by decide +kernel
theorem d_Sa_begin_8 : decode c_Sa_begin 8 = .ok (.putfield 62, 3) := by decide +kernel
theorem d_Sa_begin_11 : decode c_Sa_begin 11 = .ok (.aload_n 0, 1) := by decide +kernel
theorem d_Sa_begin_12 : decode c_Sa_begin 12 = .ok (.iconst 0, 1) := by decide +kernel
theorem d_Sa_begin_13 : decode c_Sa_begin 13 = .ok (.putfield 59, 3) := by decide +kernel
theorem d_Sa_begin_16 : decode c_Sa_begin 16 = .ok (.iconst 0, 1) := by decide +kernel
theorem d_Sa_begin_17 : decode c_Sa_begin 17 = .ok (.istore_n 2, 1) := by decide +kernel
theorem d_Sa_begin_18 : decode c_Sa_begin 18 = .ok (.iload_n 2, 1) := by decide +kernel
theorem d_Sa_begin_19 : decode c_Sa_begin 19 = .ok (.bipush 6, 2) := by decide +kernel
theorem d_Sa_begin_21 : decode c_Sa_begin 21 = .ok (.if_icmp .ge 24, 3) := by decide +kernel
theorem d_Sa_begin_24 : decode c_Sa_begin 24 = .ok (.aload_n 0, 1) := by decide +kernel
theorem d_Sa_begin_25 : decode c_Sa_begin 25 = .ok (.getfield 9, 3) := by decide +kernel
theorem d_Sa_begin_28 : decode c_Sa_begin 28 = .ok (.iload_n 2, 1) := by decide +kernel
theorem d_Sa_begin_29 : decode c_Sa_begin 29 = .ok (.aload_n 1, 1) := by decide +kernel
theorem d_Sa_begin_30 : decode c_Sa_begin 30 = .ok (.getfield 71, 3) := by decide +kernel
theorem d_Sa_begin_33 : decode c_Sa_begin 33 = .ok (.iload_n 2, 1) := by decide +kernel
theorem d_Sa_begin_34 : decode c_Sa_begin 34 = .ok (.aaload, 1) := by decide +kernel
theorem d_Sa_begin_35 : decode c_Sa_begin 35 = .ok (.getfield 75, 3) := by decide +kernel
theorem d_Sa_begin_38 : decode c_Sa_begin 38 = .ok (.iastore, 1) := by decide +kernel
theorem d_Sa_begin_39 : decode c_Sa_begin 39 = .ok (.iinc 2 1, 3) := by decide +kernel
theorem d_Sa_begin_42 : decode c_Sa_begin 42 = .ok (.goto (-24), 3) := by decide +kernel
theorem d_Sa_begin_45 : decode c_Sa_begin 45 = .ok (.iconst 0, 1) := by decide +kernel
theorem d_Sa_begin_46 : decode c_Sa_begin 46 = .ok (.istore_n 2, 1) := by decide +kernel
theorem d_Sa_begin_47 : decode c_Sa_begin 47 = .ok (.iload_n 2, 1) := by decide +kernel
theorem d_Sa_begin_48 : decode c_Sa_begin 48 = .ok (.iconst 4, 1) := by decide +kernel
theorem d_Sa_begin_49 : decode c_Sa_begin 49 = .ok (.if_icmp .ge 24, 3) := by decide +kernel
theorem d_Sa_begin_52 : decode c_Sa_begin 52 = .ok (.aload_n 0, 1) := by decide +kernel
theorem d_Sa_begin_53 : decode c_Sa_begin 53 = .ok (.getfield 15, 3) := by decide +kernel
theorem d_Sa_begin_56 : decode c_Sa_begin 56 = .ok (.iload_n 2, 1) := by decide +kernel
theorem d_Sa_begin_57 : decode c_Sa_begin 57 = .ok (.aload_n 1, 1) := by decide +kernel
theorem d_Sa_begin_58 : decode c_Sa_begin 58 = .ok (.getfield 77, 3) := by decide +kernel
theorem d_Sa_begin_61 : decode c_Sa_begin 61 = .ok (.iload_n 2, 1) := by decide +kernel
theorem d_Sa_begin_62 : decode c_Sa_begin 62 = .ok (.aaload, 1) := by decide +kernel
theorem d_Sa_begin_63 : decode c_Sa_begin 63 = .ok (.getfield 81, 3) := by decide +kernel
theorem d_Sa_begin_66 : decode c_Sa_begin 66 = .ok (.iastore, 1) := by decide +kernel
theorem d_Sa_begin_67 : decode c_Sa_begin 67 = .ok (.iinc 2 1, 3) := by decide +kernel
theorem d_Sa_begin_70 : decode c_Sa_begin 70 = .ok (.goto (-23), 3) := by decide +kernel
theorem d_Sa_begin_73 : decode c_Sa_begin 73 = .ok (.return_, 1) := by decide +kernel
theorem C_Sa_begin {M : MM} {n nd : Nat} {J B : JT} {pb pj : Nat → Nat} (hJ : CJ M n J) (hB : CB M nd B) : AF y_Sa_begin c_Sa_begin 3 none 1 [vR 16, vR 3] (M) (none) (YM M n nd (yr J B pb pj 0)) := by
  refine AF.of k_Sa_begin (lo := [some (vR 16), some (vR 3), none]) rfl (Nat.le_of_ble_eq_true rfl) (fun X hX hR => ?_)
  refine v_aload_n (pc := 0) hX rfl d_Sa_begin_0 ?_
  refine v_bipush (pc := 1) (v := (-9)) hX (by decide) d_Sa_begin_1 ?_
  refine g_putI (pc := 3) hX fl_Sa_50 rfl (finI rfl rfl) rfl rfl rfl d_Sa_begin_3 ?_
  refine v_aload_n (pc := 6) hX rfl d_Sa_begin_6 ?_
  refine v_iconst (pc := 7) (v := 0) hX (by decide) d_Sa_begin_7 ?_
  refine g_putI (pc := 8) hX fl_Sa_62 rfl (finI rfl rfl) rfl rfl rfl d_Sa_begin_8 ?_
  refine v_aload_n (pc := 11) hX rfl d_Sa_begin_11 ?_
  refine v_iconst (pc := 12) (v := 0) hX (by decide) d_Sa_begin_12 ?_
  refine g_putI (pc := 13) hX fl_Sa_59 rfl (finI rfl rfl) rfl rfl rfl d_Sa_begin_13 ?_
  refine v_iconst (pc := 16) (v := 0) hX (by decide) d_Sa_begin_16 ?_
  refine v_istore_n (pc := 17) (lo' := [some (vR _), some (vR _), some (vI _)]) hX (Nat.le_of_ble_eq_true rfl) rfl d_Sa_begin_17 ?_
  refine VW.cast (lo' := [some (vR 16), some (vR 3), some (vI (i3 0))]) (st' := []) (G' := gM (cpF (bgY M) 17 (fun i => M (6 + i) 3) 0)) rfl rfl (by rw [cpF_0]; rfl) ?_
  refine v_for (X := X) (head := 18) (6) (fun kk => [some (vR 16), some (vR 3), some (vI (i3 kk))]) (fun kk => cpF (bgY M) 17 (fun i => M (6 + i) 3) kk) (fun k hk ih18 => ?_) ?_
  · show VW X 18 [some (vR 16), some (vR 3), some (vI (i3 k))] [] (gM (cpF (bgY M) 17 (fun i => M (6 + i) 3) k))
    have hsj := sh_jar k hk
    refine v_iload_n (pc := 18) hX rfl d_Sa_begin_18 ?_
    refine v_bipush (pc := 19) (v := 6) hX (by decide) d_Sa_begin_19 ?_
    refine v_icmp_ge (pc := 21) (tgt := 45) hX d_Sa_begin_21 rfl (fun h21 => False.elim (i3_ge_abs hk (by decide) h21)) (fun h21 => ?_)
    refine v_aload_n (pc := 24) hX rfl d_Sa_begin_24 ?_
    refine g_getR (pc := 25) hX fl_Sa_9 rfl rfl nf_16_0 d_Sa_begin_25 ?_
    refine v_iload_n (pc := 28) hX rfl d_Sa_begin_28 ?_
    refine v_aload_n (pc := 29) hX rfl d_Sa_begin_29 ?_
    refine g_getR (pc := 30) hX fl_Sa_71 rfl rfl nf_3_0 d_Sa_begin_30 ?_
    refine v_iload_n (pc := 33) hX rfl d_Sa_begin_33 ?_
    refine g_aald (pc := 34) (c := 1) hX (by decide) (by decide) rfl (IX.of hk (by decide)) (nf_jar k hk) d_Sa_begin_34 ?_
    refine g_getI (pc := 35) hX fl_Sa_75 rfl (by assumption) d_Sa_begin_35 ?_
    rw [cpF_ne (by omega), bgY_ne (by omega)]
    refine g_iast (pc := 38) hX rfl (IX.of hk (by decide)) d_Sa_begin_38 ?_
    refine v_iinc (pc := 39) (lo' := [some (vR _), some (vR _), some (vI _)]) hX rfl rfl d_Sa_begin_39 ?_
    refine v_goto (pc := 42) (tgt := 18) hX d_Sa_begin_42 rfl ?_
    exact VW.cast (by rw [i3_succ]; rfl) rfl (by rw [cpF_s]) ih18
  · show VW X 18 [some (vR 16), some (vR 3), some (vI (i3 (6)))] [] (gM (cpF (bgY M) 17 (fun i => M (6 + i) 3) (6)))
    refine v_iload_n (pc := 18) hX rfl d_Sa_begin_18 ?_
    refine v_bipush (pc := 19) (v := 6) hX (by decide) d_Sa_begin_19 ?_
    refine v_icmp_ge (pc := 21) (tgt := 45) hX d_Sa_begin_21 rfl (fun h21 => ?_) (fun h21 => False.elim (by revert h21; decide))
    refine v_iconst (pc := 45) (v := 0) hX (by decide) d_Sa_begin_45 ?_
    refine v_istore_n (pc := 46) (lo' := [some (vR _), some (vR _), some (vI _)]) hX (Nat.le_of_ble_eq_true rfl) rfl d_Sa_begin_46 ?_
    refine VW.cast (lo' := [some (vR 16), some (vR 3), some (vI (i3 0))]) (st' := []) (G' := gM (cpF (cpF (bgY M) 17 (fun i => M (6 + i) 3) 6) 18 (fun i => M (12 + i) 2) 0)) rfl rfl (by rw [cpF_0]) ?_
    refine v_for (X := X) (head := 47) (4) (fun kk => [some (vR 16), some (vR 3), some (vI (i3 kk))]) (fun kk => cpF (cpF (bgY M) 17 (fun i => M (6 + i) 3) 6) 18 (fun i => M (12 + i) 2) kk) (fun k hk ih47 => ?_) ?_
    · show VW X 47 [some (vR 16), some (vR 3), some (vI (i3 k))] [] (gM (cpF (cpF (bgY M) 17 (fun i => M (6 + i) 3) 6) 18 (fun i => M (12 + i) 2) k))
      have hsj := sh_dec k hk
      refine v_iload_n (pc := 47) hX rfl d_Sa_begin_47 ?_
      refine v_iconst (pc := 48) (v := 4) hX (by decide) d_Sa_begin_48 ?_
      refine v_icmp_ge (pc := 49) (tgt := 73) hX d_Sa_begin_49 rfl (fun h49 => False.elim (i3_ge_abs hk (by decide) h49)) (fun h49 => ?_)
      refine v_aload_n (pc := 52) hX rfl d_Sa_begin_52 ?_
      refine g_getR (pc := 53) hX fl_Sa_15 rfl rfl nf_16_1 d_Sa_begin_53 ?_
      refine v_iload_n (pc := 56) hX rfl d_Sa_begin_56 ?_
      refine v_aload_n (pc := 57) hX rfl d_Sa_begin_57 ?_
      refine g_getR (pc := 58) hX fl_Sa_77 rfl rfl nf_3_1 d_Sa_begin_58 ?_
      refine v_iload_n (pc := 61) hX rfl d_Sa_begin_61 ?_
      refine g_aald (pc := 62) (c := 0) hX (by decide) (by decide) rfl (IX.of hk (by decide)) (nf_dec k hk) d_Sa_begin_62 ?_
      refine g_getI (pc := 63) hX fl_Sa_81 rfl (by assumption) d_Sa_begin_63 ?_
      rw [cpF_ne (by omega), cpF_ne (by omega), bgY_ne (by omega)]
      refine g_iast (pc := 66) hX rfl (IX.of hk (by decide)) d_Sa_begin_66 ?_
      refine v_iinc (pc := 67) (lo' := [some (vR _), some (vR _), some (vI _)]) hX rfl rfl d_Sa_begin_67 ?_
      refine v_goto (pc := 70) (tgt := 47) hX d_Sa_begin_70 rfl ?_
      exact VW.cast (by rw [i3_succ]; rfl) rfl (by rw [cpF_s]) ih47
    · show VW X 47 [some (vR 16), some (vR 3), some (vI (i3 (4)))] [] (gM (cpF (cpF (bgY M) 17 (fun i => M (6 + i) 3) 6) 18 (fun i => M (12 + i) 2) (4)))
      refine v_iload_n (pc := 47) hX rfl d_Sa_begin_47 ?_
      refine v_iconst (pc := 48) (v := 4) hX (by decide) d_Sa_begin_48 ?_
      refine v_icmp_ge (pc := 49) (tgt := 73) hX d_Sa_begin_49 rfl (fun h49 => ?_) (fun h49 => False.elim (by revert h49; decide))
      exact f_vret (pc := 73) hX hR (YM_0 hJ hB) d_Sa_begin_73
theorem sh_c18 {c : Nat} (h : SH[c]? = some (1, 60)) : 18 < c := by
  have hl := (List.getElem?_eq_some_iff.mp h).1
  have hl : c < 64 := hl
  have : ∀ c, c < 64 → SH[c]? = some (1, 60) → 18 < c := by decide +kernel
  exact this c hl h
theorem upM3 {M : MM} {r1 k1 r2 k2 r3 k3 a i : Nat} {x1 x2 x3 : Int32} (h1 : a ≠ r1) (h2 : a ≠ r2) (h3 : a ≠ r3) : upM (upM (upM M r1 k1 x1) r2 k2 x2) r3 k3 x3 a i = M a i := by
  rw [upM_ne (fun q => h3 q.1), upM_ne (fun q => h2 q.1), upM_ne (fun q => h1 q.1)]
theorem d_Sa_goThrough_0 : decode c_Sa_goThrough 0 = .ok (.aload_n 0, 1) := by decide +kernel
theorem d_Sa_goThrough_1 : decode c_Sa_goThrough 1 = .ok (.aload_n 1, 1) := by decide +kernel
theorem d_Sa_goThrough_2 : decode c_Sa_goThrough 2 = .ok (.invokevirtual 46, 3) := by decide +kernel
theorem d_Sa_goThrough_5 : decode c_Sa_goThrough 5 = .ok (.iconst 0, 1) := by decide +kernel
theorem d_Sa_goThrough_6 : decode c_Sa_goThrough 6 = .ok (.istore 5, 2) := by decide +kernel
theorem d_Sa_goThrough_8 : decode c_Sa_goThrough 8 = .ok (.iload 5, 2) := by decide +kernel
theorem d_Sa_goThrough_10 : decode c_Sa_goThrough 10 = .ok (.iload 4, 2) := by decide +kernel
theorem d_Sa_goThrough_12 : decode c_Sa_goThrough 12 = .ok (.if_icmp .ge 173, 3) := by decide +kernel
theorem d_Sa_goThrough_15 : decode c_Sa_goThrough 15 = .ok (.aload_n 0, 1) := by decide +kernel
theorem d_Sa_goThrough_16 : decode c_Sa_goThrough 16 = .ok (.getfield 50, 3) := by decide +kernel
theorem d_Sa_goThrough_19 : decode c_Sa_goThrough 19 = .ok (.bipush (-9), 2) := by decide +kernel
theorem d_Sa_goThrough_21 : decode c_Sa_goThrough 21 = .ok (.if_icmp .ne 164, 3) := by decide +kernel
theorem d_Sa_goThrough_24 : decode c_Sa_goThrough 24 = .ok (.aload_n 1, 1) := by decide +kernel
theorem d_Sa_goThrough_25 : decode c_Sa_goThrough 25 = .ok (.aload_n 2, 1) := by decide +kernel
theorem d_Sa_goThrough_26 : decode c_Sa_goThrough 26 = .ok (.iload_n 3, 1) := by decide +kernel
theorem d_Sa_goThrough_27 : decode c_Sa_goThrough 27 = .ok (.iload 5, 2) := by decide +kernel
theorem d_Sa_goThrough_29 : decode c_Sa_goThrough 29 = .ok (.invokestatic 22, 3) := by decide +kernel
theorem d_Sa_goThrough_32 : decode c_Sa_goThrough 32 = .ok (.astore 6, 2) := by decide +kernel
theorem d_Sa_goThrough_34 : decode c_Sa_goThrough 34 = .ok (.aload_n 1, 1) := by decide +kernel
theorem d_Sa_goThrough_35 : decode c_Sa_goThrough 35 = .ok (.aload_n 2, 1) := by decide +kernel
theorem d_Sa_goThrough_36 : decode c_Sa_goThrough 36 = .ok (.iload_n 3, 1) := by decide +kernel
theorem d_Sa_goThrough_37 : decode c_Sa_goThrough 37 = .ok (.iload 5, 2) := by decide +kernel
theorem d_Sa_goThrough_39 : decode c_Sa_goThrough 39 = .ok (.invokestatic 26, 3) := by decide +kernel
theorem d_Sa_goThrough_42 : decode c_Sa_goThrough 42 = .ok (.astore 7, 2) := by decide +kernel
theorem d_Sa_goThrough_44 : decode c_Sa_goThrough 44 = .ok (.aload_n 2, 1) := by decide +kernel
theorem d_Sa_goThrough_45 : decode c_Sa_goThrough 45 = .ok (.iload_n 3, 1) := by decide +kernel
theorem d_Sa_goThrough_46 : decode c_Sa_goThrough 46 = .ok (.iconst 2, 1) := by decide +kernel
theorem d_Sa_goThrough_47 : decode c_Sa_goThrough 47 = .ok (.iload 5, 2) := by decide +kernel
theorem d_Sa_goThrough_49 : decode c_Sa_goThrough 49 = .ok (.imul, 1) := by decide +kernel
theorem d_Sa_goThrough_50 : decode c_Sa_goThrough 50 = .ok (.iadd, 1) := by decide +kernel
theorem d_Sa_goThrough_51 : decode c_Sa_goThrough 51 = .ok (.invokevirtual 30, 3) := by decide +kernel
theorem d_Sa_goThrough_54 : decode c_Sa_goThrough 54 = .ok (.istore 8, 2) := by decide +kernel
theorem d_Sa_goThrough_56 : decode c_Sa_goThrough 56 = .ok (.aload_n 2, 1) := by decide +kernel
theorem d_Sa_goThrough_57 : decode c_Sa_goThrough 57 = .ok (.iload_n 3, 1) := by decide +kernel
theorem d_Sa_goThrough_58 : decode c_Sa_goThrough 58 = .ok (.iconst 2, 1) := by decide +kernel
theorem d_Sa_goThrough_59 : decode c_Sa_goThrough 59 = .ok (.iload 5, 2) := by decide +kernel
theorem d_Sa_goThrough_61 : decode c_Sa_goThrough 61 = .ok (.imul, 1) := by decide +kernel
theorem d_Sa_goThrough_62 : decode c_Sa_goThrough 62 = .ok (.iadd, 1) := by decide +kernel
theorem d_Sa_goThrough_63 : decode c_Sa_goThrough 63 = .ok (.iconst 1, 1) := by decide +kernel
theorem d_Sa_goThrough_64 : decode c_Sa_goThrough 64 = .ok (.iadd, 1) := by decide +kernel
theorem d_Sa_goThrough_65 : decode c_Sa_goThrough 65 = .ok (.invokevirtual 30, 3) := by decide +kernel
theorem d_Sa_goThrough_68 : decode c_Sa_goThrough 68 = .ok (.istore 9, 2) := by decide +kernel
theorem d_Sa_goThrough_70 : decode c_Sa_goThrough 70 = .ok (.aload 6, 2) := by decide +kernel
theorem d_Sa_goThrough_72 : decode c_Sa_goThrough 72 = .ok (.ifnull 34, 3) := by decide +kernel
theorem d_Sa_goThrough_75 : decode c_Sa_goThrough 75 = .ok (.aload 7, 2) := by decide +kernel
theorem d_Sa_goThrough_77 : decode c_Sa_goThrough 77 = .ok (.ifnull 29, 3) := by decide +kernel
theorem d_Sa_goThrough_80 : decode c_Sa_goThrough 80 = .ok (.aload_n 0, 1) := by decide +kernel
theorem d_Sa_goThrough_81 : decode c_Sa_goThrough 81 = .ok (.getfield 9, 3) := by decide +kernel
theorem d_Sa_goThrough_84 : decode c_Sa_goThrough 84 = .ok (.iload 9, 2) := by decide +kernel
theorem d_Sa_goThrough_86 : decode c_Sa_goThrough 86 = .ok (.iaload, 1) := by decide +kernel
theorem d_Sa_goThrough_87 : decode c_Sa_goThrough 87 = .ok (.iconst 1, 1) := by decide +kernel
theorem d_Sa_goThrough_88 : decode c_Sa_goThrough 88 = .ok (.if_icmp .lt 18, 3) := by decide +kernel
theorem d_Sa_goThrough_91 : decode c_Sa_goThrough 91 = .ok (.aload 7, 2) := by decide +kernel
theorem d_Sa_goThrough_93 : decode c_Sa_goThrough 93 = .ok (.getfield 54, 3) := by decide +kernel
theorem d_Sa_goThrough_96 : decode c_Sa_goThrough 96 = .ok (.aload_n 0, 1) := by decide +kernel
theorem d_Sa_goThrough_97 : decode c_Sa_goThrough 97 = .ok (.getfield 15, 3) := by decide +kernel
theorem d_Sa_goThrough_100 : decode c_Sa_goThrough 100 = .ok (.iload 8, 2) := by decide +kernel
theorem d_Sa_goThrough_102 : decode c_Sa_goThrough 102 = .ok (.iaload, 1) := by decide +kernel
theorem d_Sa_goThrough_103 : decode c_Sa_goThrough 103 = .ok (.if_icmp .le 12, 3) := by decide +kernel
theorem d_Sa_goThrough_106 : decode c_Sa_goThrough 106 = .ok (.aload_n 0, 1) := by decide +kernel
theorem d_Sa_goThrough_107 : decode c_Sa_goThrough 107 = .ok (.iload 5, 2) := by decide +kernel
theorem d_Sa_goThrough_109 : decode c_Sa_goThrough 109 = .ok (.putfield 50, 3) := by decide +kernel
theorem d_Sa_goThrough_112 : decode c_Sa_goThrough 112 = .ok (.goto 67, 3) := by decide +kernel
theorem d_Sa_goThrough_115 : decode c_Sa_goThrough 115 = .ok (.aload_n 0, 1) := by decide +kernel
theorem d_Sa_goThrough_116 : decode c_Sa_goThrough 116 = .ok (.getfield 9, 3) := by decide +kernel
theorem d_Sa_goThrough_119 : decode c_Sa_goThrough 119 = .ok (.iload 9, 2) := by decide +kernel
theorem d_Sa_goThrough_121 : decode c_Sa_goThrough 121 = .ok (.dup2, 1) := by decide +kernel
theorem d_Sa_goThrough_122 : decode c_Sa_goThrough 122 = .ok (.iaload, 1) := by decide +kernel
theorem d_Sa_goThrough_123 : decode c_Sa_goThrough 123 = .ok (.iconst 1, 1) := by decide +kernel
theorem d_Sa_goThrough_124 : decode c_Sa_goThrough 124 = .ok (.isub, 1) := by decide +kernel
theorem d_Sa_goThrough_125 : decode c_Sa_goThrough 125 = .ok (.iastore, 1) := by decide +kernel
theorem d_Sa_goThrough_126 : decode c_Sa_goThrough 126 = .ok (.aload_n 0, 1) := by decide +kernel
theorem d_Sa_goThrough_127 : decode c_Sa_goThrough 127 = .ok (.getfield 15, 3) := by decide +kernel
theorem d_Sa_goThrough_130 : decode c_Sa_goThrough 130 = .ok (.iload 8, 2) := by decide +kernel
theorem d_Sa_goThrough_132 : decode c_Sa_goThrough 132 = .ok (.dup2, 1) := by decide +kernel
theorem d_Sa_goThrough_133 : decode c_Sa_goThrough 133 = .ok (.iaload, 1) := by decide +kernel
theorem d_Sa_goThrough_134 : decode c_Sa_goThrough 134 = .ok (.aload 7, 2) := by decide +kernel
theorem d_Sa_goThrough_136 : decode c_Sa_goThrough 136 = .ok (.getfield 54, 3) := by decide +kernel
theorem d_Sa_goThrough_139 : decode c_Sa_goThrough 139 = .ok (.isub, 1) := by decide +kernel
theorem d_Sa_goThrough_140 : decode c_Sa_goThrough 140 = .ok (.iastore, 1) := by decide +kernel
theorem d_Sa_goThrough_141 : decode c_Sa_goThrough 141 = .ok (.aload_n 0, 1) := by decide +kernel
theorem d_Sa_goThrough_142 : decode c_Sa_goThrough 142 = .ok (.dup, 1) := by decide +kernel
theorem d_Sa_goThrough_143 : decode c_Sa_goThrough 143 = .ok (.getfield 59, 3) := by decide +kernel
theorem d_Sa_goThrough_146 : decode c_Sa_goThrough 146 = .ok (.aload 7, 2) := by decide +kernel
theorem d_Sa_goThrough_148 : decode c_Sa_goThrough 148 = .ok (.getfield 54, 3) := by decide +kernel
theorem d_Sa_goThrough_151 : decode c_Sa_goThrough 151 = .ok (.iadd, 1) := by decide +kernel
theorem d_Sa_goThrough_152 : decode c_Sa_goThrough 152 = .ok (.putfield 59, 3) := by decide +kernel
theorem d_Sa_goThrough_155 : decode c_Sa_goThrough 155 = .ok (.aload_n 0, 1) := by decide +kernel
theorem d_Sa_goThrough_156 : decode c_Sa_goThrough 156 = .ok (.dup, 1) := by decide +kernel
theorem d_Sa_goThrough_157 : decode c_Sa_goThrough 157 = .ok (.getfield 62, 3) := by decide +kernel
theorem d_Sa_goThrough_160 : decode c_Sa_goThrough 160 = .ok (.aload 6, 2) := by decide +kernel
theorem d_Sa_goThrough_162 : decode c_Sa_goThrough 162 = .ok (.aload 7, 2) := by decide +kernel
theorem d_Sa_goThrough_164 : decode c_Sa_goThrough 164 = .ok (.invokevirtual 65, 3) := by decide +kernel
theorem d_Sa_goThrough_167 : decode c_Sa_goThrough 167 = .ok (.ifCond .eq 7, 3) := by decide +kernel
theorem d_Sa_goThrough_170 : decode c_Sa_goThrough 170 = .ok (.iconst 1, 1) := by decide +kernel
theorem d_Sa_goThrough_171 : decode c_Sa_goThrough 171 = .ok (.goto 4, 3) := by decide +kernel
theorem d_Sa_goThrough_174 : decode c_Sa_goThrough 174 = .ok (.iconst 0, 1) := by decide +kernel
theorem d_Sa_goThrough_175 : decode c_Sa_goThrough 175 = .ok (.iadd, 1) := by decide +kernel
theorem d_Sa_goThrough_176 : decode c_Sa_goThrough 176 = .ok (.putfield 62, 3) := by decide +kernel
theorem d_Sa_goThrough_179 : decode c_Sa_goThrough 179 = .ok (.iinc 5 1, 3) := by decide +kernel
theorem d_Sa_goThrough_182 : decode c_Sa_goThrough 182 = .ok (.goto (-174), 3) := by decide +kernel
theorem d_Sa_goThrough_185 : decode c_Sa_goThrough 185 = .ok (.return_, 1) := by decide +kernel
set_option maxHeartbeats 4000000 in
theorem C_Sa_goThrough {M : MM} {n nd r c a m : Nat} {J B : JT} {q : Nat → Int32} (hJ : CJ M n J) (hB : CB M nd B) (hr : SH[r]? = some (0, 5)) (hn : NF r 0 = c) (hc : SH[c]? = some (1, 60)) (ha : a + 2 * m ≤ 60) (hq : ∀ t, t < 2 * m → M c (a + t) = q t) {pb pj : Nat → Nat} (hpb : ∀ p, p < m → pb p < nd ∧ q (2 * p) = i3 (pb p)) (hpj : ∀ p, p < m → pj p < n ∧ q (2 * p + 1) = i3 (pj p)) : AF y_Sa_goThrough c_Sa_goThrough 10 none 5 [vR 16, vR 3, vR r, vI (i3 a), vI (i3 m)] (M) (none) (YM M n nd (yr J B pb pj m)) := by
  have h6 := hJ.1
  have h4 := hB.1
  have hcn : 18 < c := sh_c18 hc
  refine AF.of k_Sa_goThrough (lo := [some (vR 16), some (vR 3), some (vR r), some (vI (i3 a)), some (vI (i3 m)), none, none, none, none, none]) rfl (Nat.le_of_ble_eq_true rfl) (fun X hX hR => ?_)
  refine v_aload_n (pc := 0) hX rfl d_Sa_goThrough_0 ?_
  refine v_aload_n (pc := 1) hX rfl d_Sa_goThrough_1 ?_
  refine f_callV0 (pc := 2) hX k_Sa_begin ki_Sa_begin kv_Sa_begin ml_Sa_46 (C_Sa_begin (pb := pb) (pj := pj) hJ hB) rfl rfl rfl rfl rfl (Nat.le_of_ble_eq_true rfl) (Nat.le_of_ble_eq_true rfl) (Nat.le_of_ble_eq_true rfl) d_Sa_goThrough_2 ?_
  refine v_iconst (pc := 5) (v := 0) hX (by decide) d_Sa_goThrough_5 ?_
  refine v_istore (pc := 6) (lo' := [some (vR _), some (vR _), some (vR _), some (vI _), some (vI _), some (vI _), none, none, none, none]) hX (Nat.le_of_ble_eq_true rfl) rfl d_Sa_goThrough_6 ?_
  refine VW.cast (lo' := [some (vR 16), some (vR 3), some (vR r), some (vI (i3 a)), some (vI (i3 m)), some (vI (i3 0)), none, none, none, none]) (st' := []) (G' := gM (YM M n nd (yr J B pb pj 0))) rfl rfl rfl ?_
  refine v_for (X := X) (head := 8) (m) (fun kk => [some (vR 16), some (vR 3), some (vR r), some (vI (i3 a)), some (vI (i3 m)), some (vI (i3 kk)), none, none, none, none]) (fun kk => YM M n nd (yr J B pb pj kk)) (fun k hk ih8 => ?_) ?_
  · show VW X 8 [some (vR 16), some (vR 3), some (vR r), some (vI (i3 a)), some (vI (i3 m)), some (vI (i3 k)), none, none, none, none] [] (gM (YM M n nd (yr J B pb pj k)))
    obtain ⟨hb1, hb2⟩ := hpb k hk
    obtain ⟨hj1, hj2⟩ := hpj k hk
    have hsj := sh_jar (pj k) (by omega)
    have hsd := sh_dec (pb k) (by omega)
    have hJ1 : CJ (YM M n nd (yr J B pb pj k)) n J := hJ.eq (fun a ha i => YM_ne (by omega))
    have hB1 : CB (YM M n nd (yr J B pb pj k)) nd B := hB.eq (fun a ha i => YM_ne (by omega))
    have hq1 : ∀ t, t < 2 * m → YM M n nd (yr J B pb pj k) c (a + t) = q t := fun t ht => by rw [YM_ne (by omega)]; exact hq t ht
    by_cases hcase : (yr J B pb pj k).2.2 = 0
    · skip
      refine v_iload (pc := 8) hX rfl d_Sa_goThrough_8 ?_
      refine v_iload (pc := 10) hX rfl d_Sa_goThrough_10 ?_
      refine v_icmp_ge (pc := 12) (tgt := 185) hX d_Sa_goThrough_12 rfl (fun h12 => False.elim (i3_ge_abs hk (by omega) h12)) (fun h12 => ?_)
      refine v_aload_n (pc := 15) hX rfl d_Sa_goThrough_15 ?_
      refine g_getI (pc := 16) hX fl_Sa_50 rfl rfl d_Sa_goThrough_16 ?_
      refine v_bipush (pc := 19) (v := (-9)) hX (by decide) d_Sa_goThrough_19 ?_
      refine v_icmp_ne (pc := 21) (tgt := 185) hX d_Sa_goThrough_21 rfl (fun h21 => False.elim (by rw [YM_2, if_pos hcase] at h21; exact h21 rfl)) (fun h21 => ?_)
      refine v_aload_n (pc := 24) hX rfl d_Sa_goThrough_24 ?_
      refine v_aload_n (pc := 25) hX rfl d_Sa_goThrough_25 ?_
      refine v_iload_n (pc := 26) hX rfl d_Sa_goThrough_26 ?_
      refine v_iload (pc := 27) hX rfl d_Sa_goThrough_27 ?_
      refine f_callS (pc := 29) hX k_Sa_buyerOf ks_Sa_buyerOf ml_Sa_22 (C_Sa_buyerOf_in hJ1 hB1 hr hn hc ha hq1 hk hb1 hb2) rfl rfl rfl (Nat.le_of_ble_eq_true rfl) (Nat.le_of_ble_eq_true rfl) (Nat.le_of_ble_eq_true rfl) d_Sa_goThrough_29 ?_
      refine v_astore (pc := 32) (lo' := [some (vR _), some (vR _), some (vR _), some (vI _), some (vI _), some (vI _), some (vR _), none, none, none]) hX (Nat.le_of_ble_eq_true rfl) rfl d_Sa_goThrough_32 ?_
      refine v_aload_n (pc := 34) hX rfl d_Sa_goThrough_34 ?_
      refine v_aload_n (pc := 35) hX rfl d_Sa_goThrough_35 ?_
      refine v_iload_n (pc := 36) hX rfl d_Sa_goThrough_36 ?_
      refine v_iload (pc := 37) hX rfl d_Sa_goThrough_37 ?_
      refine f_callS (pc := 39) hX k_Sa_jarOf ks_Sa_jarOf ml_Sa_26 (C_Sa_jarOf_in hJ1 hB1 hr hn hc ha hq1 hk hj1 hj2) rfl rfl rfl (Nat.le_of_ble_eq_true rfl) (Nat.le_of_ble_eq_true rfl) (Nat.le_of_ble_eq_true rfl) d_Sa_goThrough_39 ?_
      refine v_astore (pc := 42) (lo' := [some (vR _), some (vR _), some (vR _), some (vI _), some (vI _), some (vI _), some (vR _), some (vR _), none, none]) hX (Nat.le_of_ble_eq_true rfl) rfl d_Sa_goThrough_42 ?_
      refine v_aload_n (pc := 44) hX rfl d_Sa_goThrough_44 ?_
      refine v_iload_n (pc := 45) hX rfl d_Sa_goThrough_45 ?_
      refine v_iconst (pc := 46) (v := 2) hX (by decide) d_Sa_goThrough_46 ?_
      refine v_iload (pc := 47) hX rfl d_Sa_goThrough_47 ?_
      refine v_imul (pc := 49) hX d_Sa_goThrough_49 ?_
      refine v_iadd (pc := 50) hX d_Sa_goThrough_50 ?_
      rw [i3_dbl]
      refine f_callV (pc := 51) hX k_Sh_at ki_Sh_at kv_Sh_at ml_Sa_30 (C_Sh_at (j := a + 2 * k) hr hn hc (by omega)) (by assumption) rfl rfl rfl rfl (Nat.le_of_ble_eq_true rfl) (Nat.le_of_ble_eq_true rfl) (Nat.le_of_ble_eq_true rfl) d_Sa_goThrough_51 ?_
      rw [show a + 2 * k = a + (2 * k) by omega, hq1 _ (by omega), hb2]
      refine v_istore (pc := 54) (lo' := [some (vR _), some (vR _), some (vR _), some (vI _), some (vI _), some (vI _), some (vR _), some (vR _), some (vI _), none]) hX (Nat.le_of_ble_eq_true rfl) rfl d_Sa_goThrough_54 ?_
      refine v_aload_n (pc := 56) hX rfl d_Sa_goThrough_56 ?_
      refine v_iload_n (pc := 57) hX rfl d_Sa_goThrough_57 ?_
      refine v_iconst (pc := 58) (v := 2) hX (by decide) d_Sa_goThrough_58 ?_
      refine v_iload (pc := 59) hX rfl d_Sa_goThrough_59 ?_
      refine v_imul (pc := 61) hX d_Sa_goThrough_61 ?_
      refine v_iadd (pc := 62) hX d_Sa_goThrough_62 ?_
      refine v_iconst (pc := 63) (v := 1) hX (by decide) d_Sa_goThrough_63 ?_
      refine v_iadd (pc := 64) hX d_Sa_goThrough_64 ?_
      rw [i3_dbl, ← i3_succ]
      refine f_callV (pc := 65) hX k_Sh_at ki_Sh_at kv_Sh_at ml_Sa_30 (C_Sh_at (j := a + 2 * k + 1) hr hn hc (by omega)) (by assumption) rfl rfl rfl rfl (Nat.le_of_ble_eq_true rfl) (Nat.le_of_ble_eq_true rfl) (Nat.le_of_ble_eq_true rfl) d_Sa_goThrough_65 ?_
      rw [show a + 2 * k + 1 = a + (2 * k + 1) by omega, hq1 _ (by omega), hj2]
      refine v_istore (pc := 68) (lo' := [some (vR _), some (vR _), some (vR _), some (vI _), some (vI _), some (vI _), some (vR _), some (vR _), some (vI _), some (vI _)]) hX (Nat.le_of_ble_eq_true rfl) rfl d_Sa_goThrough_68 ?_
      refine v_aload (pc := 70) hX rfl d_Sa_goThrough_70 ?_
      refine v_ifnull (pc := 72) (tgt := 106) hX d_Sa_goThrough_72 rfl (fun h72 => False.elim (by have := sh_two (by assumption); omega)) (fun h72 => ?_)
      refine v_aload (pc := 75) hX rfl d_Sa_goThrough_75 ?_
      refine v_ifnull (pc := 77) (tgt := 106) hX d_Sa_goThrough_77 rfl (fun h77 => False.elim (by have := sh_two (by assumption); omega)) (fun h77 => ?_)
      refine v_aload_n (pc := 80) hX rfl d_Sa_goThrough_80 ?_
      refine g_getR (pc := 81) hX fl_Sa_9 rfl rfl nf_16_0 d_Sa_goThrough_81 ?_
      refine v_iload (pc := 84) hX rfl d_Sa_goThrough_84 ?_
      refine g_iald (pc := 86) hX rfl (IX.of (n := 6) (by omega) (by decide)) d_Sa_goThrough_86 ?_
      refine v_iconst (pc := 87) (v := 1) hX (by decide) d_Sa_goThrough_87 ?_
      rw [YM_h hj1 h6]
      refine v_icmp_lt (pc := 88) (tgt := 106) hX d_Sa_goThrough_88 rfl (fun h88 => ?_) (fun h88 => ?_)
      · have hcn : ycan J (pb k) (pj k) (yr J B pb pj k) = false := by unfold ycan; rw [decide_eq_false (fun w => by simp only [lt32, q_0, q_1] at *; omega)]; rfl
        refine v_aload_n (pc := 106) hX rfl d_Sa_goThrough_106 ?_
        refine v_iload (pc := 107) hX rfl d_Sa_goThrough_107 ?_
        refine g_putI (pc := 109) hX fl_Sa_50 rfl (finI rfl rfl) rfl rfl rfl d_Sa_goThrough_109 ?_
        rw [YM_wrong (J := J) (B := B) (b := pb k) (j := pj k) hcase hcn]
        refine v_goto (pc := 112) (tgt := 179) hX d_Sa_goThrough_112 rfl ?_
        refine v_iinc (pc := 179) (lo' := [some (vR _), some (vR _), some (vR _), some (vI _), some (vI _), some (vI _), some (vR _), some (vR _), some (vI _), some (vI _)]) hX rfl rfl d_Sa_goThrough_179 ?_
        refine v_goto (pc := 182) (tgt := 8) hX d_Sa_goThrough_182 rfl ?_
        refine VW.fg [true, true, true, true, true, true, false, false, false, false] ?_
        exact VW.cast (by rw [i3_succ]; rfl) rfl rfl ih8
      · refine v_aload (pc := 91) hX rfl d_Sa_goThrough_91 ?_
        refine g_getI (pc := 93) hX fl_Sa_54 rfl (by assumption) d_Sa_goThrough_93 ?_
        refine v_aload_n (pc := 96) hX rfl d_Sa_goThrough_96 ?_
        refine g_getR (pc := 97) hX fl_Sa_15 rfl rfl nf_16_1 d_Sa_goThrough_97 ?_
        refine v_iload (pc := 100) hX rfl d_Sa_goThrough_100 ?_
        refine g_iald (pc := 102) hX rfl (IX.of (n := 4) (by omega) (by decide)) d_Sa_goThrough_102 ?_
        rw [YM_p hb1 h4, hJ1.2.2 _ hj1 4 (by decide)]
        refine v_icmp_le (pc := 103) (tgt := 115) hX d_Sa_goThrough_103 rfl (fun h103 => ?_) (fun h103 => ?_)
        · have hcy : ycan J (pb k) (pj k) (yr J B pb pj k) = true := by unfold ycan; rw [decide_eq_true h103, decide_eq_true (by simp only [lt32, q_0, q_1] at *; omega)]; rfl
          refine v_aload_n (pc := 115) hX rfl d_Sa_goThrough_115 ?_
          refine g_getR (pc := 116) hX fl_Sa_9 rfl rfl nf_16_0 d_Sa_goThrough_116 ?_
          refine v_iload (pc := 119) hX rfl d_Sa_goThrough_119 ?_
          refine v_dup2 (pc := 121) hX rfl rfl d_Sa_goThrough_121 ?_
          refine g_iald (pc := 122) hX rfl (IX.of (n := 6) (by omega) (by decide)) d_Sa_goThrough_122 ?_
          refine v_iconst (pc := 123) (v := 1) hX (by decide) d_Sa_goThrough_123 ?_
          refine v_isub (pc := 124) hX d_Sa_goThrough_124 ?_
          rw [YM_h hj1 h6]
          refine g_iast (pc := 125) hX rfl (IX.of (n := 6) (by omega) (by decide)) d_Sa_goThrough_125 ?_
          refine v_aload_n (pc := 126) hX rfl d_Sa_goThrough_126 ?_
          refine g_getR (pc := 127) hX fl_Sa_15 rfl rfl nf_16_1 d_Sa_goThrough_127 ?_
          refine v_iload (pc := 130) hX rfl d_Sa_goThrough_130 ?_
          refine v_dup2 (pc := 132) hX rfl rfl d_Sa_goThrough_132 ?_
          refine g_iald (pc := 133) hX rfl (IX.of (n := 4) (by omega) (by decide)) d_Sa_goThrough_133 ?_
          rw [upM_ne (by omega), YM_p hb1 h4]
          refine v_aload (pc := 134) hX rfl d_Sa_goThrough_134 ?_
          refine g_getI (pc := 136) hX fl_Sa_54 rfl (by assumption) d_Sa_goThrough_136 ?_
          rw [upM_ne (by omega), hJ1.2.2 _ hj1 4 (by decide)]
          refine v_isub (pc := 139) hX d_Sa_goThrough_139 ?_
          refine g_iast (pc := 140) hX rfl (IX.of (n := 4) (by omega) (by decide)) d_Sa_goThrough_140 ?_
          refine v_aload_n (pc := 141) hX rfl d_Sa_goThrough_141 ?_
          refine v_dup (pc := 142) hX rfl d_Sa_goThrough_142 ?_
          refine g_getI (pc := 143) hX fl_Sa_59 rfl rfl d_Sa_goThrough_143 ?_
          rw [upM_ne (by omega), upM_ne (by omega), YM_4]
          refine v_aload (pc := 146) hX rfl d_Sa_goThrough_146 ?_
          refine g_getI (pc := 148) hX fl_Sa_54 rfl (by assumption) d_Sa_goThrough_148 ?_
          rw [upM_ne (by omega), upM_ne (by omega), hJ1.2.2 _ hj1 4 (by decide)]
          refine v_iadd (pc := 151) hX d_Sa_goThrough_151 ?_
          refine g_putI (pc := 152) hX fl_Sa_59 rfl (finI rfl rfl) rfl rfl rfl d_Sa_goThrough_152 ?_
          refine v_aload_n (pc := 155) hX rfl d_Sa_goThrough_155 ?_
          refine v_dup (pc := 156) hX rfl d_Sa_goThrough_156 ?_
          refine g_getI (pc := 157) hX fl_Sa_62 rfl rfl d_Sa_goThrough_157 ?_
          rw [upM_ne (by omega), upM_ne (by omega), upM_ne (by omega), YM_3]
          refine v_aload (pc := 160) hX rfl d_Sa_goThrough_160 ?_
          refine v_aload (pc := 162) hX rfl d_Sa_goThrough_162 ?_
          refine f_callV (pc := 164) hX k_De_decidesBy ki_De_decidesBy kv_De_decidesBy ml_Sa_65 (C_De_decidesBy (by assumption) (by assumption)) (by assumption) rfl rfl rfl rfl (Nat.le_of_ble_eq_true rfl) (Nat.le_of_ble_eq_true rfl) (Nat.le_of_ble_eq_true rfl) d_Sa_goThrough_164 ?_
          rw [show mkM _ _ _ _ = mk J (pj k) (B (pb k) 1) from by rw [upM3 (by omega) (by omega) (by omega), upM3 (by omega) (by omega) (by omega), upM3 (by omega) (by omega) (by omega), upM3 (by omega) (by omega) (by omega), hJ1.mk hj1, hB1.2.2 _ hb1 1 (by decide)], upM3 (by omega) (by omega) (by omega), hB1.2.2 _ hb1 0 (by decide)]
          refine f_ifeqB (pc := 167) (tgt := 174) hX d_Sa_goThrough_167 rfl (fun h167 => ?_) (fun h167 => ?_)
          · refine v_iconst (pc := 174) (v := 0) hX (by decide) d_Sa_goThrough_174 ?_
            refine v_iadd (pc := 175) hX d_Sa_goThrough_175 ?_
            refine g_putI (pc := 176) hX fl_Sa_62 rfl (finI rfl rfl) rfl rfl rfl d_Sa_goThrough_176 ?_
            rw [YM_take (J := J) (B := B) (p := k) h6 h4 hj1 hb1 hcase hcy (by first | exact bT h167 | exact bF h167)]
            refine v_iinc (pc := 179) (lo' := [some (vR _), some (vR _), some (vR _), some (vI _), some (vI _), some (vI _), some (vR _), some (vR _), some (vI _), some (vI _)]) hX rfl rfl d_Sa_goThrough_179 ?_
            refine v_goto (pc := 182) (tgt := 8) hX d_Sa_goThrough_182 rfl ?_
            refine VW.fg [true, true, true, true, true, true, false, false, false, false] ?_
            exact VW.cast (by rw [i3_succ]; rfl) rfl rfl ih8
          · refine v_iconst (pc := 170) (v := 1) hX (by decide) d_Sa_goThrough_170 ?_
            refine v_goto (pc := 171) (tgt := 175) hX d_Sa_goThrough_171 rfl ?_
            refine v_iadd (pc := 175) hX d_Sa_goThrough_175 ?_
            refine g_putI (pc := 176) hX fl_Sa_62 rfl (finI rfl rfl) rfl rfl rfl d_Sa_goThrough_176 ?_
            rw [YM_take (J := J) (B := B) (p := k) h6 h4 hj1 hb1 hcase hcy (by first | exact bT h167 | exact bF h167)]
            refine v_iinc (pc := 179) (lo' := [some (vR _), some (vR _), some (vR _), some (vI _), some (vI _), some (vI _), some (vR _), some (vR _), some (vI _), some (vI _)]) hX rfl rfl d_Sa_goThrough_179 ?_
            refine v_goto (pc := 182) (tgt := 8) hX d_Sa_goThrough_182 rfl ?_
            refine VW.fg [true, true, true, true, true, true, false, false, false, false] ?_
            exact VW.cast (by rw [i3_succ]; rfl) rfl rfl ih8
        · have hcn : ycan J (pb k) (pj k) (yr J B pb pj k) = false := by unfold ycan; rw [decide_eq_false h103]; simp
          refine v_aload_n (pc := 106) hX rfl d_Sa_goThrough_106 ?_
          refine v_iload (pc := 107) hX rfl d_Sa_goThrough_107 ?_
          refine g_putI (pc := 109) hX fl_Sa_50 rfl (finI rfl rfl) rfl rfl rfl d_Sa_goThrough_109 ?_
          rw [YM_wrong (J := J) (B := B) (b := pb k) (j := pj k) hcase hcn]
          refine v_goto (pc := 112) (tgt := 179) hX d_Sa_goThrough_112 rfl ?_
          refine v_iinc (pc := 179) (lo' := [some (vR _), some (vR _), some (vR _), some (vI _), some (vI _), some (vI _), some (vR _), some (vR _), some (vI _), some (vI _)]) hX rfl rfl d_Sa_goThrough_179 ?_
          refine v_goto (pc := 182) (tgt := 8) hX d_Sa_goThrough_182 rfl ?_
          refine VW.fg [true, true, true, true, true, true, false, false, false, false] ?_
          exact VW.cast (by rw [i3_succ]; rfl) rfl rfl ih8
    · skip
      refine v_iload (pc := 8) hX rfl d_Sa_goThrough_8 ?_
      refine v_iload (pc := 10) hX rfl d_Sa_goThrough_10 ?_
      refine v_icmp_ge (pc := 12) (tgt := 185) hX d_Sa_goThrough_12 rfl (fun h12 => False.elim (i3_ge_abs hk (by omega) h12)) (fun h12 => ?_)
      refine v_aload_n (pc := 15) hX rfl d_Sa_goThrough_15 ?_
      refine g_getI (pc := 16) hX fl_Sa_50 rfl rfl d_Sa_goThrough_16 ?_
      refine v_bipush (pc := 19) (v := (-9)) hX (by decide) d_Sa_goThrough_19 ?_
      refine v_icmp_ne (pc := 21) (tgt := 185) hX d_Sa_goThrough_21 rfl (fun h21 => ?_) (fun h21 => False.elim (by rw [YM_2, if_neg hcase, eq32, i3_int (by have := yr_le J B pb pj k; omega), q_m9] at h21; omega))
      exact f_vret (pc := 185) hX hR (by rw [yr_stay hcase m (by omega)]) d_Sa_goThrough_185
  · show VW X 8 [some (vR 16), some (vR 3), some (vR r), some (vI (i3 a)), some (vI (i3 m)), some (vI (i3 (m))), none, none, none, none] [] (gM (YM M n nd (yr J B pb pj (m))))
    refine v_iload (pc := 8) hX rfl d_Sa_goThrough_8 ?_
    refine v_iload (pc := 10) hX rfl d_Sa_goThrough_10 ?_
    refine v_icmp_ge (pc := 12) (tgt := 185) hX d_Sa_goThrough_12 rfl (fun h12 => ?_) (fun h12 => False.elim (absurd (Int32.le_refl _) h12))
    exact f_vret (pc := 185) hX hR (rfl) d_Sa_goThrough_185
end
section
/-! What a year tells. -/
theorem d_Sa_emptied_0 : decode c_Sa_emptied 0 = .ok (.iconst 0, 1) := by decide +kernel
theorem d_Sa_emptied_1 : decode c_Sa_emptied 1 = .ok (.istore_n 2, 1) := by decide +kernel
theorem d_Sa_emptied_2 : decode c_Sa_emptied 2 = .ok (.iconst 0, 1) := by decide +kernel
theorem d_Sa_emptied_3 : decode c_Sa_emptied 3 = .ok (.istore_n 3, 1) := by decide +kernel
theorem d_Sa_emptied_4 : decode c_Sa_emptied 4 = .ok (.iload_n 3, 1) := by decide +kernel
theorem d_Sa_emptied_5 : decode c_Sa_emptied 5 = .ok (.aload_n 1, 1) := by decide +kernel
theorem d_Sa_emptied_6 : decode c_Sa_emptied 6 = .ok (.getfield 95, 3) := by decide +kernel
theorem d_Sa_emptied_9 : decode c_Sa_emptied 9 = .ok (.if_icmp .ge 28, 3) := by decide +kernel
theorem d_Sa_emptied_12 : decode c_Sa_emptied 12 = .ok (.iload_n 2, 1) := by decide +kernel
theorem d_Sa_emptied_13 : decode c_Sa_emptied 13 = .ok (.aload_n 0, 1) := by decide +kernel
theorem d_Sa_emptied_14 : decode c_Sa_emptied 14 = .ok (.getfield 9, 3) := by decide +kernel
theorem d_Sa_emptied_17 : decode c_Sa_emptied 17 = .ok (.iload_n 3, 1) := by decide +kernel
theorem d_Sa_emptied_18 : decode c_Sa_emptied 18 = .ok (.iaload, 1) := by decide +kernel
theorem d_Sa_emptied_19 : decode c_Sa_emptied 19 = .ok (.ifCond .ne 9, 3) := by decide +kernel
theorem d_Sa_emptied_22 : decode c_Sa_emptied 22 = .ok (.iconst 1, 1) := by decide +kernel
theorem d_Sa_emptied_23 : decode c_Sa_emptied 23 = .ok (.iload_n 3, 1) := by decide +kernel
theorem d_Sa_emptied_24 : decode c_Sa_emptied 24 = .ok (.ishl, 1) := by decide +kernel
theorem d_Sa_emptied_25 : decode c_Sa_emptied 25 = .ok (.goto 4, 3) := by decide +kernel
theorem d_Sa_emptied_28 : decode c_Sa_emptied 28 = .ok (.iconst 0, 1) := by decide +kernel
theorem d_Sa_emptied_29 : decode c_Sa_emptied 29 = .ok (.ior, 1) := by decide +kernel
theorem d_Sa_emptied_30 : decode c_Sa_emptied 30 = .ok (.istore_n 2, 1) := by decide +kernel
theorem d_Sa_emptied_31 : decode c_Sa_emptied 31 = .ok (.iinc 3 1, 3) := by decide +kernel
theorem d_Sa_emptied_34 : decode c_Sa_emptied 34 = .ok (.goto (-30), 3) := by decide +kernel
theorem d_Sa_emptied_37 : decode c_Sa_emptied 37 = .ok (.iload_n 2, 1) := by decide +kernel
theorem d_Sa_emptied_38 : decode c_Sa_emptied 38 = .ok (.ireturn, 1) := by decide +kernel
theorem C_Sa_emptied {M : MM} {n : Nat} {h : Nat → Int32} (h6 : n ≤ 6) (hM : M 3 2 = i3 n) (hh : ∀ j, j < n → M 17 j = h j) : AF y_Sa_emptied c_Sa_emptied 4 (some .int) 1 [vR 16, vR 3] (M) (some (vI (i3 (gjN (fun j => decide (h j = 0)) n)))) (M) := by
  refine AF.of k_Sa_emptied (lo := [some (vR 16), some (vR 3), none, none]) rfl (Nat.le_of_ble_eq_true rfl) (fun X hX hR => ?_)
  refine v_iconst (pc := 0) (v := 0) hX (by decide) d_Sa_emptied_0 ?_
  refine v_istore_n (pc := 1) (lo' := [some (vR _), some (vR _), some (vI _), none]) hX (Nat.le_of_ble_eq_true rfl) rfl d_Sa_emptied_1 ?_
  refine v_iconst (pc := 2) (v := 0) hX (by decide) d_Sa_emptied_2 ?_
  refine v_istore_n (pc := 3) (lo' := [some (vR _), some (vR _), some (vI _), some (vI _)]) hX (Nat.le_of_ble_eq_true rfl) rfl d_Sa_emptied_3 ?_
  refine VW.cast (lo' := [some (vR 16), some (vR 3), some (vI (i3 (gjN (fun j => decide (h j = 0)) 0))), some (vI (i3 0))]) (st' := []) (G' := gM (M)) rfl rfl rfl ?_
  refine v_for (X := X) (head := 4) (n) (fun kk => [some (vR 16), some (vR 3), some (vI (i3 (gjN (fun j => decide (h j = 0)) kk))), some (vI (i3 kk))]) (fun kk => M) (fun k hk ih4 => ?_) ?_
  · show VW X 4 [some (vR 16), some (vR 3), some (vI (i3 (gjN (fun j => decide (h j = 0)) k))), some (vI (i3 k))] [] (gM (M))
    have hb := shl_i3 k (by omega)
    have hl := gjN_lt (fun j => decide (h j = 0)) k
    refine v_iload_n (pc := 4) hX rfl d_Sa_emptied_4 ?_
    refine v_aload_n (pc := 5) hX rfl d_Sa_emptied_5 ?_
    refine g_getI (pc := 6) hX fl_Sa_95 rfl rfl d_Sa_emptied_6 ?_
    refine v_icmp_ge (pc := 9) (tgt := 37) hX d_Sa_emptied_9 rfl (fun h9 => False.elim (i3_ge_abs hk (by omega) (by rw [← hM]; exact h9))) (fun h9 => ?_)
    refine v_iload_n (pc := 12) hX rfl d_Sa_emptied_12 ?_
    refine v_aload_n (pc := 13) hX rfl d_Sa_emptied_13 ?_
    refine g_getR (pc := 14) hX fl_Sa_9 rfl rfl nf_16_0 d_Sa_emptied_14 ?_
    refine v_iload_n (pc := 17) hX rfl d_Sa_emptied_17 ?_
    refine g_iald (pc := 18) hX rfl (IX.of (n := 6) (by omega) (by decide)) d_Sa_emptied_18 ?_
    rw [hh k hk]
    refine v_if_ne (pc := 19) (tgt := 28) hX d_Sa_emptied_19 rfl (fun h19 => ?_) (fun h19 => ?_)
    · have e : gjN (fun j => decide (h j = 0)) (k + 1) = gjN (fun j => decide (h j = 0)) k := by simp [gjN, h19]
      refine v_iconst (pc := 28) (v := 0) hX (by decide) d_Sa_emptied_28 ?_
      refine v_ior (pc := 29) hX d_Sa_emptied_29 ?_
      refine v_istore_n (pc := 30) (lo' := [some (vR _), some (vR _), some (vI _), some (vI _)]) hX (Nat.le_of_ble_eq_true rfl) rfl d_Sa_emptied_30 ?_
      refine v_iinc (pc := 31) (lo' := [some (vR _), some (vR _), some (vI _), some (vI _)]) hX rfl rfl d_Sa_emptied_31 ?_
      refine v_goto (pc := 34) (tgt := 4) hX d_Sa_emptied_34 rfl ?_
      exact VW.cast (by first | (rw [e, i3_succ, hb, or_i3 k (by omega) _ hl]; rfl) | (rw [e, i3_succ, or_0]; rfl)) rfl rfl ih4
    · have e : gjN (fun j => decide (h j = 0)) (k + 1) = gjN (fun j => decide (h j = 0)) k + 2 ^ k := by simp [gjN, h19]
      refine v_iconst (pc := 22) (v := 1) hX (by decide) d_Sa_emptied_22 ?_
      refine v_iload_n (pc := 23) hX rfl d_Sa_emptied_23 ?_
      refine v_ishl (pc := 24) hX d_Sa_emptied_24 ?_
      refine v_goto (pc := 25) (tgt := 29) hX d_Sa_emptied_25 rfl ?_
      refine v_ior (pc := 29) hX d_Sa_emptied_29 ?_
      refine v_istore_n (pc := 30) (lo' := [some (vR _), some (vR _), some (vI _), some (vI _)]) hX (Nat.le_of_ble_eq_true rfl) rfl d_Sa_emptied_30 ?_
      refine v_iinc (pc := 31) (lo' := [some (vR _), some (vR _), some (vI _), some (vI _)]) hX rfl rfl d_Sa_emptied_31 ?_
      refine v_goto (pc := 34) (tgt := 4) hX d_Sa_emptied_34 rfl ?_
      exact VW.cast (by first | (rw [e, i3_succ, hb, or_i3 k (by omega) _ hl]; rfl) | (rw [e, i3_succ, or_0]; rfl)) rfl rfl ih4
  · show VW X 4 [some (vR 16), some (vR 3), some (vI (i3 (gjN (fun j => decide (h j = 0)) (n)))), some (vI (i3 (n)))] [] (gM (M))
    refine v_iload_n (pc := 4) hX rfl d_Sa_emptied_4 ?_
    refine v_aload_n (pc := 5) hX rfl d_Sa_emptied_5 ?_
    refine g_getI (pc := 6) hX fl_Sa_95 rfl rfl d_Sa_emptied_6 ?_
    refine v_icmp_ge (pc := 9) (tgt := 37) hX d_Sa_emptied_9 rfl (fun h9 => ?_) (fun h9 => False.elim (absurd (by rw [hM]; exact Int32.le_refl _) h9))
    refine v_iload_n (pc := 37) hX rfl d_Sa_emptied_37 ?_
    exact f_iret (pc := 38) hX hR (rfl) (rfl) d_Sa_emptied_38
theorem d_Sa_halvesThen_0 : decode c_Sa_halvesThen 0 = .ok (.iload_n 2, 1) := by decide +kernel
theorem d_Sa_halvesThen_1 : decode c_Sa_halvesThen 1 = .ok (.aload_n 1, 1) := by decide +kernel
theorem d_Sa_halvesThen_2 : decode c_Sa_halvesThen 2 = .ok (.getfield 95, 3) := by decide +kernel
theorem d_Sa_halvesThen_5 : decode c_Sa_halvesThen 5 = .ok (.invokestatic 18, 3) := by decide +kernel
theorem d_Sa_halvesThen_8 : decode c_Sa_halvesThen 8 = .ok (.ifCond .eq 12, 3) := by decide +kernel
theorem d_Sa_halvesThen_11 : decode c_Sa_halvesThen 11 = .ok (.aload_n 0, 1) := by decide +kernel
theorem d_Sa_halvesThen_12 : decode c_Sa_halvesThen 12 = .ok (.getfield 9, 3) := by decide +kernel
theorem d_Sa_halvesThen_15 : decode c_Sa_halvesThen 15 = .ok (.iload_n 2, 1) := by decide +kernel
theorem d_Sa_halvesThen_16 : decode c_Sa_halvesThen 16 = .ok (.iaload, 1) := by decide +kernel
theorem d_Sa_halvesThen_17 : decode c_Sa_halvesThen 17 = .ok (.goto 5, 3) := by decide +kernel
theorem d_Sa_halvesThen_20 : decode c_Sa_halvesThen 20 = .ok (.bipush (-9), 2) := by decide +kernel
theorem d_Sa_halvesThen_22 : decode c_Sa_halvesThen 22 = .ok (.ireturn, 1) := by decide +kernel
theorem C_Sa_halvesThen {M : MM} {n : Nat} {h : Nat → Int32} {x : Int32} (h6 : n ≤ 6) (hM : M 3 2 = i3 n) (hh : ∀ j, j < n → M 17 j = h j) : AF y_Sa_halvesThen c_Sa_halvesThen 3 (some .int) 2 [vR 16, vR 3, vI x] (M) (some (vI (if rg x 0 ((n : Int) - 1) = true then h x.toNatClampNeg else -9))) (M) := by
  refine AF.of k_Sa_halvesThen (lo := [some (vR 16), some (vR 3), some (vI x)]) rfl (Nat.le_of_ble_eq_true rfl) (fun X hX hR => ?_)
  refine v_iload_n (pc := 0) hX rfl d_Sa_halvesThen_0 ?_
  refine v_aload_n (pc := 1) hX rfl d_Sa_halvesThen_1 ?_
  refine g_getI (pc := 2) hX fl_Sa_95 rfl rfl d_Sa_halvesThen_2 ?_
  refine f_callN (pc := 5) hX k_LJ_isBelow ks_LJ_isBelow (by decide) (C_LJ_isBelow) rfl rfl rfl (Nat.le_of_ble_eq_true rfl) (Nat.le_of_ble_eq_true rfl) (Nat.le_of_ble_eq_true rfl) d_Sa_halvesThen_5 ?_
  rw [hM, i3_int (by omega)]
  refine f_ifeqB (pc := 8) (tgt := 20) hX d_Sa_halvesThen_8 rfl (fun h8 => ?_) (fun h8 => ?_)
  · refine v_bipush (pc := 20) (v := (-9)) hX (by decide) d_Sa_halvesThen_20 ?_
    exact f_iret (pc := 22) hX hR (by first | (rw [if_pos h8, hix.1]; exact hh k hk) | (rw [if_neg (by rw [h8]; decide)])) (rfl) d_Sa_halvesThen_22
  · obtain ⟨k, hk, hx⟩ := rg_in (by omega) h8
    have hix : IX x k 6 := by rw [hx]; exact IX.of (by omega) (by decide)
    refine v_aload_n (pc := 11) hX rfl d_Sa_halvesThen_11 ?_
    refine g_getR (pc := 12) hX fl_Sa_9 rfl rfl nf_16_0 d_Sa_halvesThen_12 ?_
    refine v_iload_n (pc := 15) hX rfl d_Sa_halvesThen_15 ?_
    refine g_iald (pc := 16) hX rfl hix d_Sa_halvesThen_16 ?_
    refine v_goto (pc := 17) (tgt := 22) hX d_Sa_halvesThen_17 rfl ?_
    exact f_iret (pc := 22) hX hR (by first | (rw [if_pos h8, hix.1]; exact hh k hk) | (rw [if_neg (by rw [h8]; decide)])) (rfl) d_Sa_halvesThen_22
theorem d_Sa_purseThen_0 : decode c_Sa_purseThen 0 = .ok (.iload_n 2, 1) := by decide +kernel
theorem d_Sa_purseThen_1 : decode c_Sa_purseThen 1 = .ok (.aload_n 1, 1) := by decide +kernel
theorem d_Sa_purseThen_2 : decode c_Sa_purseThen 2 = .ok (.getfield 98, 3) := by decide +kernel
theorem d_Sa_purseThen_5 : decode c_Sa_purseThen 5 = .ok (.invokestatic 18, 3) := by decide +kernel
theorem d_Sa_purseThen_8 : decode c_Sa_purseThen 8 = .ok (.ifCond .eq 12, 3) := by decide +kernel
theorem d_Sa_purseThen_11 : decode c_Sa_purseThen 11 = .ok (.aload_n 0, 1) := by decide +kernel
theorem d_Sa_purseThen_12 : decode c_Sa_purseThen 12 = .ok (.getfield 15, 3) := by decide +kernel
theorem d_Sa_purseThen_15 : decode c_Sa_purseThen 15 = .ok (.iload_n 2, 1) := by decide +kernel
theorem d_Sa_purseThen_16 : decode c_Sa_purseThen 16 = .ok (.iaload, 1) := by decide +kernel
theorem d_Sa_purseThen_17 : decode c_Sa_purseThen 17 = .ok (.goto 5, 3) := by decide +kernel
theorem d_Sa_purseThen_20 : decode c_Sa_purseThen 20 = .ok (.bipush (-9), 2) := by decide +kernel
theorem d_Sa_purseThen_22 : decode c_Sa_purseThen 22 = .ok (.ireturn, 1) := by decide +kernel
theorem C_Sa_purseThen {M : MM} {n : Nat} {h : Nat → Int32} {x : Int32} (h6 : n ≤ 4) (hM : M 3 3 = i3 n) (hh : ∀ j, j < n → M 18 j = h j) : AF y_Sa_purseThen c_Sa_purseThen 3 (some .int) 2 [vR 16, vR 3, vI x] (M) (some (vI (if rg x 0 ((n : Int) - 1) = true then h x.toNatClampNeg else -9))) (M) := by
  refine AF.of k_Sa_purseThen (lo := [some (vR 16), some (vR 3), some (vI x)]) rfl (Nat.le_of_ble_eq_true rfl) (fun X hX hR => ?_)
  refine v_iload_n (pc := 0) hX rfl d_Sa_purseThen_0 ?_
  refine v_aload_n (pc := 1) hX rfl d_Sa_purseThen_1 ?_
  refine g_getI (pc := 2) hX fl_Sa_98 rfl rfl d_Sa_purseThen_2 ?_
  refine f_callN (pc := 5) hX k_LJ_isBelow ks_LJ_isBelow (by decide) (C_LJ_isBelow) rfl rfl rfl (Nat.le_of_ble_eq_true rfl) (Nat.le_of_ble_eq_true rfl) (Nat.le_of_ble_eq_true rfl) d_Sa_purseThen_5 ?_
  rw [hM, i3_int (by omega)]
  refine f_ifeqB (pc := 8) (tgt := 20) hX d_Sa_purseThen_8 rfl (fun h8 => ?_) (fun h8 => ?_)
  · refine v_bipush (pc := 20) (v := (-9)) hX (by decide) d_Sa_purseThen_20 ?_
    exact f_iret (pc := 22) hX hR (by first | (rw [if_pos h8, hix.1]; exact hh k hk) | (rw [if_neg (by rw [h8]; decide)])) (rfl) d_Sa_purseThen_22
  · obtain ⟨k, hk, hx⟩ := rg_in (by omega) h8
    have hix : IX x k 4 := by rw [hx]; exact IX.of (by omega) (by decide)
    refine v_aload_n (pc := 11) hX rfl d_Sa_purseThen_11 ?_
    refine g_getR (pc := 12) hX fl_Sa_15 rfl rfl nf_16_1 d_Sa_purseThen_12 ?_
    refine v_iload_n (pc := 15) hX rfl d_Sa_purseThen_15 ?_
    refine g_iald (pc := 16) hX rfl hix d_Sa_purseThen_16 ?_
    refine v_goto (pc := 17) (tgt := 22) hX d_Sa_purseThen_17 rfl ?_
    exact f_iret (pc := 22) hX hR (by first | (rw [if_pos h8, hix.1]; exact hh k hk) | (rw [if_neg (by rw [h8]; decide)])) (rfl) d_Sa_purseThen_22
def yaN (n nd : Nat) (s : YS) (w : Int32) : Int32 :=
  if w = 1 then (if s.2.2 = 0 then -9 else i3 (s.2.2 - 1))
  else if s.2.2 ≠ 0 then -100 - i3 (s.2.2 - 1)
  else if w = 0 then s.2.1.1 else if w = 2 then s.2.1.2 else if w = 3 then i3 (gjN (fun j => decide (s.1.1 j = 0)) n)
  else if w < 20 then (if rg (w - 10) 0 ((n : Int) - 1) = true then s.1.1 (w - 10).toNatClampNeg else -9)
  else (if rg (w - 20) 0 ((nd : Int) - 1) = true then s.1.2 (w - 20).toNatClampNeg else -9)
theorem d_Sa_answer_0 : decode c_Sa_answer 0 = .ok (.iload_n 2, 1) := by decide +kernel
theorem d_Sa_answer_1 : decode c_Sa_answer 1 = .ok (.iconst 1, 1) := by decide +kernel
theorem d_Sa_answer_2 : decode c_Sa_answer 2 = .ok (.if_icmp .ne 8, 3) := by decide +kernel
theorem d_Sa_answer_5 : decode c_Sa_answer 5 = .ok (.aload_n 0, 1) := by decide +kernel
theorem d_Sa_answer_6 : decode c_Sa_answer 6 = .ok (.getfield 50, 3) := by decide +kernel
theorem d_Sa_answer_9 : decode c_Sa_answer 9 = .ok (.ireturn, 1) := by decide +kernel
theorem d_Sa_answer_10 : decode c_Sa_answer 10 = .ok (.aload_n 0, 1) := by decide +kernel
theorem d_Sa_answer_11 : decode c_Sa_answer 11 = .ok (.getfield 50, 3) := by decide +kernel
theorem d_Sa_answer_14 : decode c_Sa_answer 14 = .ok (.bipush (-9), 2) := by decide +kernel
theorem d_Sa_answer_16 : decode c_Sa_answer 16 = .ok (.if_icmp .eq 11, 3) := by decide +kernel
theorem d_Sa_answer_19 : decode c_Sa_answer 19 = .ok (.bipush (-100), 2) := by decide +kernel
theorem d_Sa_answer_21 : decode c_Sa_answer 21 = .ok (.aload_n 0, 1) := by decide +kernel
theorem d_Sa_answer_22 : decode c_Sa_answer 22 = .ok (.getfield 50, 3) := by decide +kernel
theorem d_Sa_answer_25 : decode c_Sa_answer 25 = .ok (.isub, 1) := by decide +kernel
theorem d_Sa_answer_26 : decode c_Sa_answer 26 = .ok (.ireturn, 1) := by decide +kernel
theorem d_Sa_answer_27 : decode c_Sa_answer 27 = .ok (.iload_n 2, 1) := by decide +kernel
theorem d_Sa_answer_28 : decode c_Sa_answer 28 = .ok (.tableswitch 48 0 3 #[32, 48, 37, 42], 32) := by decide +kernel
theorem d_Sa_answer_60 : decode c_Sa_answer 60 = .ok (.aload_n 0, 1) := by decide +kernel
theorem d_Sa_answer_61 : decode c_Sa_answer 61 = .ok (.getfield 62, 3) := by decide +kernel
theorem d_Sa_answer_64 : decode c_Sa_answer 64 = .ok (.ireturn, 1) := by decide +kernel
theorem d_Sa_answer_65 : decode c_Sa_answer 65 = .ok (.aload_n 0, 1) := by decide +kernel
theorem d_Sa_answer_66 : decode c_Sa_answer 66 = .ok (.getfield 59, 3) := by decide +kernel
theorem d_Sa_answer_69 : decode c_Sa_answer 69 = .ok (.ireturn, 1) := by decide +kernel
theorem d_Sa_answer_70 : decode c_Sa_answer 70 = .ok (.aload_n 0, 1) := by decide +kernel
theorem d_Sa_answer_71 : decode c_Sa_answer 71 = .ok (.aload_n 1, 1) := by decide +kernel
theorem d_Sa_answer_72 : decode c_Sa_answer 72 = .ok (.invokevirtual 84, 3) := by decide +kernel
theorem d_Sa_answer_75 : decode c_Sa_answer 75 = .ok (.ireturn, 1) := by decide +kernel
theorem d_Sa_answer_76 : decode c_Sa_answer 76 = .ok (.iload_n 2, 1) := by decide +kernel
theorem d_Sa_answer_77 : decode c_Sa_answer 77 = .ok (.bipush 20, 2) := by decide +kernel
theorem d_Sa_answer_79 : decode c_Sa_answer 79 = .ok (.if_icmp .ge 15, 3) := by decide +kernel
theorem d_Sa_answer_82 : decode c_Sa_answer 82 = .ok (.aload_n 0, 1) := by decide +kernel
theorem d_Sa_answer_83 : decode c_Sa_answer 83 = .ok (.aload_n 1, 1) := by decide +kernel
theorem d_Sa_answer_84 : decode c_Sa_answer 84 = .ok (.iload_n 2, 1) := by decide +kernel
theorem d_Sa_answer_85 : decode c_Sa_answer 85 = .ok (.bipush 10, 2) := by decide +kernel
theorem d_Sa_answer_87 : decode c_Sa_answer 87 = .ok (.isub, 1) := by decide +kernel
theorem d_Sa_answer_88 : decode c_Sa_answer 88 = .ok (.invokevirtual 88, 3) := by decide +kernel
theorem d_Sa_answer_91 : decode c_Sa_answer 91 = .ok (.goto 12, 3) := by decide +kernel
theorem d_Sa_answer_94 : decode c_Sa_answer 94 = .ok (.aload_n 0, 1) := by decide +kernel
theorem d_Sa_answer_95 : decode c_Sa_answer 95 = .ok (.aload_n 1, 1) := by decide +kernel
theorem d_Sa_answer_96 : decode c_Sa_answer 96 = .ok (.iload_n 2, 1) := by decide +kernel
theorem d_Sa_answer_97 : decode c_Sa_answer 97 = .ok (.bipush 20, 2) := by decide +kernel
theorem d_Sa_answer_99 : decode c_Sa_answer 99 = .ok (.isub, 1) := by decide +kernel
theorem d_Sa_answer_100 : decode c_Sa_answer 100 = .ok (.invokevirtual 92, 3) := by decide +kernel
theorem d_Sa_answer_103 : decode c_Sa_answer 103 = .ok (.ireturn, 1) := by decide +kernel
theorem C_Sa_answer {M : MM} {n nd : Nat} {s : YS} {w : Int32} (h6 : n ≤ 6) (h4 : nd ≤ 4) (hM : M 3 2 = i3 n) (hM3 : M 3 3 = i3 nd) (hs : s.2.2 ≤ 20) : AF y_Sa_answer c_Sa_answer 3 (some .int) 3 [vR 16, vR 3, vI w] (YM M n nd s) (some (vI (yaN n nd s w))) (YM M n nd s) := by
  have hM' : YM M n nd s 3 2 = i3 n := by rw [YM_ne (by omega)]; exact hM
  have hM3' : YM M n nd s 3 3 = i3 nd := by rw [YM_ne (by omega)]; exact hM3
  refine AF.of k_Sa_answer (lo := [some (vR 16), some (vR 3), some (vI w)]) rfl (Nat.le_of_ble_eq_true rfl) (fun X hX hR => ?_)
  refine v_iload_n (pc := 0) hX rfl d_Sa_answer_0 ?_
  refine v_iconst (pc := 1) (v := 1) hX (by decide) d_Sa_answer_1 ?_
  refine v_icmp_ne (pc := 2) (tgt := 10) hX d_Sa_answer_2 rfl (fun h2 => ?_) (fun h2 => ?_)
  · refine v_aload_n (pc := 10) hX rfl d_Sa_answer_10 ?_
    refine g_getI (pc := 11) hX fl_Sa_50 rfl rfl d_Sa_answer_11 ?_
    refine v_bipush (pc := 14) (v := (-9)) hX (by decide) d_Sa_answer_14 ?_
    refine v_icmp_eq (pc := 16) (tgt := 27) hX d_Sa_answer_16 rfl (fun h16 => ?_) (fun h16 => ?_)
    · have hw : ¬ s.2.2 ≠ 0 := fun q => by rw [YM_2, if_neg q, eq32, i3_int (by omega), q_m9] at h16; omega
      refine v_iload_n (pc := 27) hX rfl d_Sa_answer_27 ?_
      refine v_top (fun y28 q28 => ?_)
      by_cases e28_0 : y28 = 0
      · refine v_tabIn (pc := 28) (tgt := 60) (off := 32) (y := 0) hX e28_0 d_Sa_answer_28 (by decide) (by decide) (by decide) rfl ?_
        refine v_aload_n (pc := 60) hX rfl d_Sa_answer_60 ?_
        refine g_getI (pc := 61) hX fl_Sa_62 rfl rfl d_Sa_answer_61 ?_
        exact f_iret (pc := 64) hX hR (by subst q28; unfold yaN; rw [if_neg h2, if_neg hw, if_pos e28_0, YM_3]) (rfl) d_Sa_answer_64
      by_cases e28_2 : y28 = 2
      · refine v_tabIn (pc := 28) (tgt := 65) (off := 37) (y := 2) hX e28_2 d_Sa_answer_28 (by decide) (by decide) (by decide) rfl ?_
        refine v_aload_n (pc := 65) hX rfl d_Sa_answer_65 ?_
        refine g_getI (pc := 66) hX fl_Sa_59 rfl rfl d_Sa_answer_66 ?_
        exact f_iret (pc := 69) hX hR (by subst q28; unfold yaN; rw [if_neg h2, if_neg hw, if_neg e28_0, if_pos e28_2, YM_4]) (rfl) d_Sa_answer_69
      by_cases e28_3 : y28 = 3
      · refine v_tabIn (pc := 28) (tgt := 70) (off := 42) (y := 3) hX e28_3 d_Sa_answer_28 (by decide) (by decide) (by decide) rfl ?_
        refine v_aload_n (pc := 70) hX rfl d_Sa_answer_70 ?_
        refine v_aload_n (pc := 71) hX rfl d_Sa_answer_71 ?_
        refine f_callV (pc := 72) hX k_Sa_emptied ki_Sa_emptied kv_Sa_emptied ml_Sa_84 (C_Sa_emptied h6 hM' (fun j hj => YM_h hj h6)) rfl rfl rfl rfl rfl (Nat.le_of_ble_eq_true rfl) (Nat.le_of_ble_eq_true rfl) (Nat.le_of_ble_eq_true rfl) d_Sa_answer_72 ?_
        exact f_iret (pc := 75) hX hR (by subst q28; unfold yaN; rw [if_neg h2, if_neg hw, if_neg e28_0, if_neg e28_2, if_pos e28_3]) (rfl) d_Sa_answer_75
      have e28_1 : ¬ y28 = 1 := by rw [← q28]; exact h2
      refine v_tabOut (pc := 28) (tgt := 76) hX d_Sa_answer_28 (by simp only [eq32, q_0, q_1, q_2, q_3, q_4, q_5, q_6, q_7, q_8, q_9, q_10, q_11, q_12, q_15, q_16, q_20, q_21, q_23, q_24, q_29, q_31, q_44, q_48, q_59, q_60, q_61, q_63, q_99, q_100, q_108, q_112, q_116, q_119, q_240, q_m1, q_m9] at e28_0 e28_1 e28_2 e28_3; omega) rfl ?_
      refine v_iload_n (pc := 76) hX rfl d_Sa_answer_76 ?_
      refine v_bipush (pc := 77) (v := 20) hX (by decide) d_Sa_answer_77 ?_
      refine v_icmp_ge (pc := 79) (tgt := 94) hX d_Sa_answer_79 rfl (fun h79 => ?_) (fun h79 => ?_)
      · refine v_aload_n (pc := 94) hX rfl d_Sa_answer_94 ?_
        refine v_aload_n (pc := 95) hX rfl d_Sa_answer_95 ?_
        refine v_iload_n (pc := 96) hX rfl d_Sa_answer_96 ?_
        refine v_bipush (pc := 97) (v := 20) hX (by decide) d_Sa_answer_97 ?_
        refine v_isub (pc := 99) hX d_Sa_answer_99 ?_
        refine f_callV (pc := 100) hX k_Sa_purseThen ki_Sa_purseThen kv_Sa_purseThen ml_Sa_92 (C_Sa_purseThen h4 hM3' (fun j hj => YM_p hj h4)) rfl rfl rfl rfl rfl (Nat.le_of_ble_eq_true rfl) (Nat.le_of_ble_eq_true rfl) (Nat.le_of_ble_eq_true rfl) d_Sa_answer_100 ?_
        exact f_iret (pc := 103) hX hR (by subst q28; unfold yaN; rw [if_neg h2, if_neg hw, if_neg e28_0, if_neg e28_2, if_neg e28_3]; first | (rw [if_pos (Int32.not_le.mp h79)]) | (rw [if_neg (Int32.not_lt.mpr h79)])) (rfl) d_Sa_answer_103
      · refine v_aload_n (pc := 82) hX rfl d_Sa_answer_82 ?_
        refine v_aload_n (pc := 83) hX rfl d_Sa_answer_83 ?_
        refine v_iload_n (pc := 84) hX rfl d_Sa_answer_84 ?_
        refine v_bipush (pc := 85) (v := 10) hX (by decide) d_Sa_answer_85 ?_
        refine v_isub (pc := 87) hX d_Sa_answer_87 ?_
        refine f_callV (pc := 88) hX k_Sa_halvesThen ki_Sa_halvesThen kv_Sa_halvesThen ml_Sa_88 (C_Sa_halvesThen h6 hM' (fun j hj => YM_h hj h6)) rfl rfl rfl rfl rfl (Nat.le_of_ble_eq_true rfl) (Nat.le_of_ble_eq_true rfl) (Nat.le_of_ble_eq_true rfl) d_Sa_answer_88 ?_
        refine v_goto (pc := 91) (tgt := 103) hX d_Sa_answer_91 rfl ?_
        exact f_iret (pc := 103) hX hR (by subst q28; unfold yaN; rw [if_neg h2, if_neg hw, if_neg e28_0, if_neg e28_2, if_neg e28_3]; first | (rw [if_pos (Int32.not_le.mp h79)]) | (rw [if_neg (Int32.not_lt.mpr h79)])) (rfl) d_Sa_answer_103
    · have hw : s.2.2 ≠ 0 := fun q => h16 (by rw [YM_2, if_pos q])
      refine v_bipush (pc := 19) (v := (-100)) hX (by decide) d_Sa_answer_19 ?_
      refine v_aload_n (pc := 21) hX rfl d_Sa_answer_21 ?_
      refine g_getI (pc := 22) hX fl_Sa_50 rfl rfl d_Sa_answer_22 ?_
      refine v_isub (pc := 25) hX d_Sa_answer_25 ?_
      exact f_iret (pc := 26) hX hR (by unfold yaN; rw [if_neg h2, if_pos hw, YM_2, if_neg hw]) (rfl) d_Sa_answer_26
  · refine v_aload_n (pc := 5) hX rfl d_Sa_answer_5 ?_
    refine g_getI (pc := 6) hX fl_Sa_50 rfl rfl d_Sa_answer_6 ?_
    exact f_iret (pc := 9) hX hR (by unfold yaN; rw [if_pos (by simpa using h2), YM_2]) (rfl) d_Sa_answer_9
end
section
/-! Texts: the first fault. -/
-- a text: codes q 0 .. q (m - 1)
def kcN (x : Int32) : Int32 := if x = 108 then 0 else if x = 112 then 2 else if x = 119 then 1 else -9
def stB (q : Nat → Int32) (m p : Nat) (sg : Int32) : Bool := decide (p < m) && decide (q p = sg)
def dgB (q : Nat → Int32) (m p : Nat) : Bool := decide (p < m) && rg (q p - 48) 0 9
def ftJ (q : Nat → Int32) (m p : Nat) : Nat := if p + 1 < m ∧ kcN (q (p + 1)) ≠ -9 then 2 + chs (fun i => !dgB q m (p + 2 + i)) 4 else 1
def ftD (q : Nat → Int32) (m p : Nat) : Nat := 1 + chs (fun i => !dgB q m (p + 1 + i)) 4
def gJ (q : Nat → Int32) (m k : Nat) : Bool := stB q m (1 + 6 * k) 59 && decide (ftJ q m (1 + 6 * k) = 6)
def gD (q : Nat → Int32) (m p k : Nat) : Bool := stB q m (p + 5 * k) 44 && decide (ftD q m (p + 5 * k) = 5)
def nJ (q : Nat → Int32) (m : Nat) : Nat := chs (fun k => !gJ q m k) 6
def nD (q : Nat → Int32) (m p : Nat) : Nat := chs (fun k => !gD q m p k) 4
def eo (x : Option Nat) : Int32 := match x with
  | none => -9
  | some k => i3 k
def ffD (q : Nat → Int32) (m p : Nat) : Option Nat :=
  if nD q m p < 4 ∧ stB q m (p + 5 * nD q m p) 44 = true then some (p + 5 * nD q m p + ftD q m (p + 5 * nD q m p))
  else if nD q m p = 0 ∨ p + 5 * nD q m p < m then some (p + 5 * nD q m p) else none
def ffO (q : Nat → Int32) (m : Nat) : Option Nat :=
  if ¬ (0 < m ∧ q 0 = 116) then some 0
  else if nJ q m < 6 ∧ stB q m (1 + 6 * nJ q m) 59 = true then some (1 + 6 * nJ q m + ftJ q m (1 + 6 * nJ q m))
  else if nJ q m = 0 then some 1
  else ffD q m (1 + 6 * nJ q m)
theorem ftJ_le (q : Nat → Int32) (m p : Nat) : ftJ q m p ≤ 6 := by
  unfold ftJ
  have := chs_le (fun i => !dgB q m (p + 2 + i)) 4
  split <;> omega
theorem ftD_le (q : Nat → Int32) (m p : Nat) : ftD q m p ≤ 5 := by
  unfold ftD
  have := chs_le (fun i => !dgB q m (p + 1 + i)) 4
  omega
theorem d_Tx_kindOf_0 : decode c_Tx_kindOf 0 = .ok (.iload_n 0, 1) := by decide +kernel
theorem d_Tx_kindOf_1 : decode c_Tx_kindOf 1 = .ok (.lookupswitch 41 #[(108, 35), (112, 39), (119, 37)], 35) := by decide +kernel
theorem d_Tx_kindOf_36 : decode c_Tx_kindOf 36 = .ok (.iconst 0, 1) := by decide +kernel
theorem d_Tx_kindOf_37 : decode c_Tx_kindOf 37 = .ok (.ireturn, 1) := by decide +kernel
theorem d_Tx_kindOf_38 : decode c_Tx_kindOf 38 = .ok (.iconst 1, 1) := by decide +kernel
theorem d_Tx_kindOf_39 : decode c_Tx_kindOf 39 = .ok (.ireturn, 1) := by decide +kernel
theorem d_Tx_kindOf_40 : decode c_Tx_kindOf 40 = .ok (.iconst 2, 1) := by decide +kernel
theorem d_Tx_kindOf_41 : decode c_Tx_kindOf 41 = .ok (.ireturn, 1) := by decide +kernel
theorem d_Tx_kindOf_42 : decode c_Tx_kindOf 42 = .ok (.bipush (-9), 2) := by decide +kernel
theorem d_Tx_kindOf_44 : decode c_Tx_kindOf 44 = .ok (.ireturn, 1) := by decide +kernel
theorem C_Tx_kindOf {M : MM} {x : Int32} : AF y_Tx_kindOf c_Tx_kindOf 1 (some .int) 1 [vI x] (M) (some (vI (kcN x))) (M) := by
  refine AF.of k_Tx_kindOf (lo := [some (vI x)]) rfl (Nat.le_of_ble_eq_true rfl) (fun X hX hR => ?_)
  refine v_iload_n (pc := 0) hX rfl d_Tx_kindOf_0 ?_
  refine v_top (fun y1 q1 => ?_)
  by_cases e1_108 : y1 = 108
  · subst e1_108
    refine v_look (pc := 1) (tgt := 36) (off := 35) hX d_Tx_kindOf_1 (by decide) (by decide) rfl ?_
    refine v_iconst (pc := 36) (v := 0) hX (by decide) d_Tx_kindOf_36 ?_
    exact f_iret (pc := 37) hX hR (by subst q1; rfl) (rfl) d_Tx_kindOf_37
  by_cases e1_112 : y1 = 112
  · subst e1_112
    refine v_look (pc := 1) (tgt := 40) (off := 39) hX d_Tx_kindOf_1 (by decide) (by decide) rfl ?_
    refine v_iconst (pc := 40) (v := 2) hX (by decide) d_Tx_kindOf_40 ?_
    exact f_iret (pc := 41) hX hR (by subst q1; rfl) (rfl) d_Tx_kindOf_41
  by_cases e1_119 : y1 = 119
  · subst e1_119
    refine v_look (pc := 1) (tgt := 38) (off := 37) hX d_Tx_kindOf_1 (by decide) (by decide) rfl ?_
    refine v_iconst (pc := 38) (v := 1) hX (by decide) d_Tx_kindOf_38 ?_
    exact f_iret (pc := 39) hX hR (by subst q1; rfl) (rfl) d_Tx_kindOf_39
  refine v_look (pc := 1) (tgt := 42) hX d_Tx_kindOf_1 (by decide) (look_out (by simp only [eq32, q_0, q_1, q_2, q_3, q_4, q_5, q_6, q_7, q_8, q_9, q_10, q_11, q_12, q_15, q_16, q_20, q_21, q_23, q_24, q_29, q_31, q_44, q_48, q_59, q_60, q_61, q_63, q_99, q_100, q_108, q_112, q_116, q_119, q_240, q_m1, q_m9] at e1_108 e1_112 e1_119; simp; omega)) rfl ?_
  refine v_bipush (pc := 42) (v := (-9)) hX (by decide) d_Tx_kindOf_42 ?_
  exact f_iret (pc := 44) hX hR (by subst q1; unfold kcN; rw [if_neg e1_108, if_neg e1_112, if_neg e1_119]) (rfl) d_Tx_kindOf_44
theorem d_Tx_startsWith_0 : decode c_Tx_startsWith 0 = .ok (.iload_n 3, 1) := by decide +kernel
theorem d_Tx_startsWith_1 : decode c_Tx_startsWith 1 = .ok (.iload_n 2, 1) := by decide +kernel
theorem d_Tx_startsWith_2 : decode c_Tx_startsWith 2 = .ok (.if_icmp .ge 19, 3) := by decide +kernel
theorem d_Tx_startsWith_5 : decode c_Tx_startsWith 5 = .ok (.aload_n 0, 1) := by decide +kernel
theorem d_Tx_startsWith_6 : decode c_Tx_startsWith 6 = .ok (.iload_n 1, 1) := by decide +kernel
theorem d_Tx_startsWith_7 : decode c_Tx_startsWith 7 = .ok (.iload_n 3, 1) := by decide +kernel
theorem d_Tx_startsWith_8 : decode c_Tx_startsWith 8 = .ok (.iadd, 1) := by decide +kernel
theorem d_Tx_startsWith_9 : decode c_Tx_startsWith 9 = .ok (.invokevirtual 9, 3) := by decide +kernel
theorem d_Tx_startsWith_12 : decode c_Tx_startsWith 12 = .ok (.iload 4, 2) := by decide +kernel
theorem d_Tx_startsWith_14 : decode c_Tx_startsWith 14 = .ok (.if_icmp .ne 7, 3) := by decide +kernel
theorem d_Tx_startsWith_17 : decode c_Tx_startsWith 17 = .ok (.iconst 1, 1) := by decide +kernel
theorem d_Tx_startsWith_18 : decode c_Tx_startsWith 18 = .ok (.goto 4, 3) := by decide +kernel
theorem d_Tx_startsWith_21 : decode c_Tx_startsWith 21 = .ok (.iconst 0, 1) := by decide +kernel
theorem d_Tx_startsWith_22 : decode c_Tx_startsWith 22 = .ok (.ireturn, 1) := by decide +kernel
theorem C_Tx_startsWith {M : MM} {r c a m p : Nat} {q : Nat → Int32} (hr : SH[r]? = some (0, 5)) (hn : NF r 0 = c) (hc : SH[c]? = some (1, 60)) (ha : a + m ≤ 60) (hq : ∀ t, t < m → M c (a + t) = q t) {sg : Int32} (hp : p ≤ 100) : AF y_Tx_startsWith c_Tx_startsWith 5 (some .boolean) 3 [vR r, vI (i3 a), vI (i3 m), vI (i3 p), vI sg] (M) (some (vI (bI (stB q m p sg)))) (M) := by
  refine AF.of k_Tx_startsWith (lo := [some (vR r), some (vI (i3 a)), some (vI (i3 m)), some (vI (i3 p)), some (vI sg)]) rfl (Nat.le_of_ble_eq_true rfl) (fun X hX hR => ?_)
  refine v_iload_n (pc := 0) hX rfl d_Tx_startsWith_0 ?_
  refine v_iload_n (pc := 1) hX rfl d_Tx_startsWith_1 ?_
  refine v_icmp_ge (pc := 2) (tgt := 21) hX d_Tx_startsWith_2 rfl (fun h2 => ?_) (fun h2 => ?_)
  · have e : stB q m p sg = false := by unfold stB; rw [decide_eq_false (by have := (i3_le (by omega) (by omega)).mp h2; omega)]; rfl
    refine v_iconst (pc := 21) (v := 0) hX (by decide) d_Tx_startsWith_21 ?_
    exact f_zret (pc := 22) hX hR (by first | exact bT e | exact bF e) (rfl) d_Tx_startsWith_22
  · have hpm : p < m := Nat.lt_of_not_le (fun w => h2 ((i3_le (by omega) (by omega)).mpr w))
    refine v_aload_n (pc := 5) hX rfl d_Tx_startsWith_5 ?_
    refine v_iload_n (pc := 6) hX rfl d_Tx_startsWith_6 ?_
    refine v_iload_n (pc := 7) hX rfl d_Tx_startsWith_7 ?_
    refine v_iadd (pc := 8) hX d_Tx_startsWith_8 ?_
    rw [← i3_add]
    refine f_callV (pc := 9) hX k_Sh_at ki_Sh_at kv_Sh_at ml_Tx_9 (C_Sh_at (j := a + p) hr hn hc (by omega)) (by assumption) rfl rfl rfl rfl (Nat.le_of_ble_eq_true rfl) (Nat.le_of_ble_eq_true rfl) (Nat.le_of_ble_eq_true rfl) d_Tx_startsWith_9 ?_
    rw [hq p hpm]
    refine v_iload (pc := 12) hX rfl d_Tx_startsWith_12 ?_
    refine v_icmp_ne (pc := 14) (tgt := 21) hX d_Tx_startsWith_14 rfl (fun h14 => ?_) (fun h14 => ?_)
    · have e : stB q m p sg = false := by unfold stB; rw [decide_eq_false h14]; simp
      refine v_iconst (pc := 21) (v := 0) hX (by decide) d_Tx_startsWith_21 ?_
      exact f_zret (pc := 22) hX hR (by first | exact bT e | exact bF e) (rfl) d_Tx_startsWith_22
    · have e : stB q m p sg = true := by unfold stB; rw [decide_eq_true hpm, decide_eq_true (by simpa using h14)]; rfl
      refine v_iconst (pc := 17) (v := 1) hX (by decide) d_Tx_startsWith_17 ?_
      refine v_goto (pc := 18) (tgt := 22) hX d_Tx_startsWith_18 rfl ?_
      exact f_zret (pc := 22) hX hR (by first | exact bT e | exact bF e) (rfl) d_Tx_startsWith_22
theorem d_Tx_fitting_0 : decode c_Tx_fitting 0 = .ok (.iconst 1, 1) := by decide +kernel
theorem d_Tx_fitting_1 : decode c_Tx_fitting 1 = .ok (.istore 5, 2) := by decide +kernel
theorem d_Tx_fitting_3 : decode c_Tx_fitting 3 = .ok (.iload 4, 2) := by decide +kernel
theorem d_Tx_fitting_5 : decode c_Tx_fitting 5 = .ok (.bipush 6, 2) := by decide +kernel
theorem d_Tx_fitting_7 : decode c_Tx_fitting 7 = .ok (.if_icmp .ne 33, 3) := by decide +kernel
theorem d_Tx_fitting_10 : decode c_Tx_fitting 10 = .ok (.iload_n 3, 1) := by decide +kernel
theorem d_Tx_fitting_11 : decode c_Tx_fitting 11 = .ok (.iconst 1, 1) := by decide +kernel
theorem d_Tx_fitting_12 : decode c_Tx_fitting 12 = .ok (.iadd, 1) := by decide +kernel
theorem d_Tx_fitting_13 : decode c_Tx_fitting 13 = .ok (.iload_n 2, 1) := by decide +kernel
theorem d_Tx_fitting_14 : decode c_Tx_fitting 14 = .ok (.if_icmp .ge 20, 3) := by decide +kernel
theorem d_Tx_fitting_17 : decode c_Tx_fitting 17 = .ok (.aload_n 0, 1) := by decide +kernel
theorem d_Tx_fitting_18 : decode c_Tx_fitting 18 = .ok (.iload_n 1, 1) := by decide +kernel
theorem d_Tx_fitting_19 : decode c_Tx_fitting 19 = .ok (.iload_n 3, 1) := by decide +kernel
theorem d_Tx_fitting_20 : decode c_Tx_fitting 20 = .ok (.iadd, 1) := by decide +kernel
theorem d_Tx_fitting_21 : decode c_Tx_fitting 21 = .ok (.iconst 1, 1) := by decide +kernel
theorem d_Tx_fitting_22 : decode c_Tx_fitting 22 = .ok (.iadd, 1) := by decide +kernel
theorem d_Tx_fitting_23 : decode c_Tx_fitting 23 = .ok (.invokevirtual 9, 3) := by decide +kernel
theorem d_Tx_fitting_26 : decode c_Tx_fitting 26 = .ok (.invokestatic 25, 3) := by decide +kernel
theorem d_Tx_fitting_29 : decode c_Tx_fitting 29 = .ok (.bipush (-9), 2) := by decide +kernel
theorem d_Tx_fitting_31 : decode c_Tx_fitting 31 = .ok (.if_icmp .ne 6, 3) := by decide +kernel
theorem d_Tx_fitting_34 : decode c_Tx_fitting 34 = .ok (.iload 5, 2) := by decide +kernel
theorem d_Tx_fitting_36 : decode c_Tx_fitting 36 = .ok (.ireturn, 1) := by decide +kernel
theorem d_Tx_fitting_37 : decode c_Tx_fitting 37 = .ok (.iconst 2, 1) := by decide +kernel
theorem d_Tx_fitting_38 : decode c_Tx_fitting 38 = .ok (.istore 5, 2) := by decide +kernel
theorem d_Tx_fitting_40 : decode c_Tx_fitting 40 = .ok (.iload 5, 2) := by decide +kernel
theorem d_Tx_fitting_42 : decode c_Tx_fitting 42 = .ok (.iload 4, 2) := by decide +kernel
theorem d_Tx_fitting_44 : decode c_Tx_fitting 44 = .ok (.if_icmp .ge 38, 3) := by decide +kernel
theorem d_Tx_fitting_47 : decode c_Tx_fitting 47 = .ok (.iload_n 3, 1) := by decide +kernel
theorem d_Tx_fitting_48 : decode c_Tx_fitting 48 = .ok (.iload 5, 2) := by decide +kernel
theorem d_Tx_fitting_50 : decode c_Tx_fitting 50 = .ok (.iadd, 1) := by decide +kernel
theorem d_Tx_fitting_51 : decode c_Tx_fitting 51 = .ok (.iload_n 2, 1) := by decide +kernel
theorem d_Tx_fitting_52 : decode c_Tx_fitting 52 = .ok (.if_icmp .ge 30, 3) := by decide +kernel
theorem d_Tx_fitting_55 : decode c_Tx_fitting 55 = .ok (.aload_n 0, 1) := by decide +kernel
theorem d_Tx_fitting_56 : decode c_Tx_fitting 56 = .ok (.iload_n 1, 1) := by decide +kernel
theorem d_Tx_fitting_57 : decode c_Tx_fitting 57 = .ok (.iload_n 3, 1) := by decide +kernel
theorem d_Tx_fitting_58 : decode c_Tx_fitting 58 = .ok (.iadd, 1) := by decide +kernel
theorem d_Tx_fitting_59 : decode c_Tx_fitting 59 = .ok (.iload 5, 2) := by decide +kernel
theorem d_Tx_fitting_61 : decode c_Tx_fitting 61 = .ok (.iadd, 1) := by decide +kernel
theorem d_Tx_fitting_62 : decode c_Tx_fitting 62 = .ok (.invokevirtual 9, 3) := by decide +kernel
theorem d_Tx_fitting_65 : decode c_Tx_fitting 65 = .ok (.bipush 48, 2) := by decide +kernel
theorem d_Tx_fitting_67 : decode c_Tx_fitting 67 = .ok (.isub, 1) := by decide +kernel
theorem d_Tx_fitting_68 : decode c_Tx_fitting 68 = .ok (.bipush 10, 2) := by decide +kernel
theorem d_Tx_fitting_70 : decode c_Tx_fitting 70 = .ok (.invokestatic 28, 3) := by decide +kernel
theorem d_Tx_fitting_73 : decode c_Tx_fitting 73 = .ok (.ifCond .eq 9, 3) := by decide +kernel
theorem d_Tx_fitting_76 : decode c_Tx_fitting 76 = .ok (.iinc 5 1, 3) := by decide +kernel
theorem d_Tx_fitting_79 : decode c_Tx_fitting 79 = .ok (.goto (-39), 3) := by decide +kernel
theorem d_Tx_fitting_82 : decode c_Tx_fitting 82 = .ok (.iload 5, 2) := by decide +kernel
theorem d_Tx_fitting_84 : decode c_Tx_fitting 84 = .ok (.ireturn, 1) := by decide +kernel
theorem C_Tx_fitting_6 {M : MM} {r c a m p : Nat} {q : Nat → Int32} (hr : SH[r]? = some (0, 5)) (hn : NF r 0 = c) (hc : SH[c]? = some (1, 60)) (ha : a + m ≤ 60) (hq : ∀ t, t < m → M c (a + t) = q t) (hp : p ≤ 100) : AF y_Tx_fitting c_Tx_fitting 6 (some .int) 3 [vR r, vI (i3 a), vI (i3 m), vI (i3 p), vI 6] (M) (some (vI (i3 (ftJ q m p)))) (M) := by
  refine AF.of k_Tx_fitting (lo := [some (vR r), some (vI (i3 a)), some (vI (i3 m)), some (vI (i3 p)), some (vI 6), none]) rfl (Nat.le_of_ble_eq_true rfl) (fun X hX hR => ?_)
  refine v_iconst (pc := 0) (v := 1) hX (by decide) d_Tx_fitting_0 ?_
  refine v_istore (pc := 1) (lo' := [some (vR _), some (vI _), some (vI _), some (vI _), some (vI _), some (vI _)]) hX (Nat.le_of_ble_eq_true rfl) rfl d_Tx_fitting_1 ?_
  refine v_iload (pc := 3) hX rfl d_Tx_fitting_3 ?_
  refine v_bipush (pc := 5) (v := 6) hX (by decide) d_Tx_fitting_5 ?_
  refine v_icmp_ne (pc := 7) (tgt := 40) hX d_Tx_fitting_7 rfl (fun h7 => False.elim (h7 rfl)) (fun h7 => ?_)
  refine v_iload_n (pc := 10) hX rfl d_Tx_fitting_10 ?_
  refine v_iconst (pc := 11) (v := 1) hX (by decide) d_Tx_fitting_11 ?_
  refine v_iadd (pc := 12) hX d_Tx_fitting_12 ?_
  refine v_iload_n (pc := 13) hX rfl d_Tx_fitting_13 ?_
  rw [← i3_succ]
  refine v_icmp_ge (pc := 14) (tgt := 34) hX d_Tx_fitting_14 rfl (fun h14 => ?_) (fun h14 => ?_)
  · have hno : ftJ q m p = 1 := by
      unfold ftJ
      rw [if_neg (by have := (i3_le (by omega) (by omega)).mp h14; omega)]
    refine v_iload (pc := 34) hX rfl d_Tx_fitting_34 ?_
    exact f_iret (pc := 36) hX hR (by rw [hno]; rfl) (rfl) d_Tx_fitting_36
  · have hpm : p + 1 < m := Nat.lt_of_not_le (fun w => h14 ((i3_le (by omega) (by omega)).mpr w))
    refine v_aload_n (pc := 17) hX rfl d_Tx_fitting_17 ?_
    refine v_iload_n (pc := 18) hX rfl d_Tx_fitting_18 ?_
    refine v_iload_n (pc := 19) hX rfl d_Tx_fitting_19 ?_
    refine v_iadd (pc := 20) hX d_Tx_fitting_20 ?_
    refine v_iconst (pc := 21) (v := 1) hX (by decide) d_Tx_fitting_21 ?_
    refine v_iadd (pc := 22) hX d_Tx_fitting_22 ?_
    rw [← i3_add, ← i3_succ]
    refine f_callV (pc := 23) hX k_Sh_at ki_Sh_at kv_Sh_at ml_Tx_9 (C_Sh_at (j := a + p + 1) hr hn hc (by omega)) (by assumption) rfl rfl rfl rfl (Nat.le_of_ble_eq_true rfl) (Nat.le_of_ble_eq_true rfl) (Nat.le_of_ble_eq_true rfl) d_Tx_fitting_23 ?_
    rw [show a + p + 1 = a + (p + 1) by omega, hq _ hpm]
    refine f_callS (pc := 26) hX k_Tx_kindOf ks_Tx_kindOf ml_Tx_25 (C_Tx_kindOf) rfl rfl rfl (Nat.le_of_ble_eq_true rfl) (Nat.le_of_ble_eq_true rfl) (Nat.le_of_ble_eq_true rfl) d_Tx_fitting_26 ?_
    refine v_bipush (pc := 29) (v := (-9)) hX (by decide) d_Tx_fitting_29 ?_
    refine v_icmp_ne (pc := 31) (tgt := 37) hX d_Tx_fitting_31 rfl (fun h31 => ?_) (fun h31 => ?_)
    · have hyes : p + 1 < m ∧ kcN (q (p + 1)) ≠ -9 := ⟨hpm, h31⟩
      refine v_iconst (pc := 37) (v := 2) hX (by decide) d_Tx_fitting_37 ?_
      refine v_istore (pc := 38) (lo' := [some (vR _), some (vI _), some (vI _), some (vI _), some (vI _), some (vI _)]) hX (Nat.le_of_ble_eq_true rfl) rfl d_Tx_fitting_38 ?_
      refine VW.cast (lo' := [some (vR r), some (vI (i3 a)), some (vI (i3 m)), some (vI (i3 p)), some (vI 6), some (vI (i3 (2 + 0)))]) (st' := []) (G' := gM (M)) rfl rfl rfl ?_
      refine v_forI (X := X) (head := 40) (4) (fun kk => [some (vR r), some (vI (i3 a)), some (vI (i3 m)), some (vI (i3 p)), some (vI 6), some (vI (i3 (2 + kk)))]) (fun kk => M) (fun kk => ∀ i, i < kk → (fun i => !dgB q m (p + 2 + i)) i = false) (fun i hi => absurd hi (Nat.not_lt_zero i)) (fun k hk hIk ih40 => ?_) (fun hIk => ?_)
      · show VW X 40 [some (vR r), some (vI (i3 a)), some (vI (i3 m)), some (vI (i3 p)), some (vI 6), some (vI (i3 (2 + k)))] [] (gM (M))
        have hIk : ∀ i, i < k → (fun i => !dgB q m (p + 2 + i)) i = false := hIk
        refine v_iload (pc := 40) hX rfl d_Tx_fitting_40 ?_
        refine v_iload (pc := 42) hX rfl d_Tx_fitting_42 ?_
        refine v_icmp_ge (pc := 44) (tgt := 82) hX d_Tx_fitting_44 rfl (fun h44 => False.elim (by have := (i3_le (a := 6) (b := 2 + k) (by omega) (by omega)).mp h44; omega)) (fun h44 => ?_)
        refine v_iload_n (pc := 47) hX rfl d_Tx_fitting_47 ?_
        refine v_iload (pc := 48) hX rfl d_Tx_fitting_48 ?_
        refine v_iadd (pc := 50) hX d_Tx_fitting_50 ?_
        refine v_iload_n (pc := 51) hX rfl d_Tx_fitting_51 ?_
        rw [← i3_add]
        refine v_icmp_ge (pc := 52) (tgt := 82) hX d_Tx_fitting_52 rfl (fun h52 => ?_) (fun h52 => ?_)
        · have e : (fun i => !dgB q m (p + 2 + i)) k = true := by
            show (!dgB q m (p + 2 + k)) = true
            unfold dgB
            rw [decide_eq_false (by have := (i3_le (by omega) (by omega)).mp h52; omega)]; rfl
          refine v_iload (pc := 82) hX rfl d_Tx_fitting_82 ?_
          exact f_iret (pc := 84) hX hR (by have e2 := chs_eq hk e hIk; unfold ftJ; rw [if_pos hyes]; rw [e2]) (rfl) d_Tx_fitting_84
        · have hpk : p + 2 + k < m := Nat.lt_of_not_le (fun w => h52 ((i3_le (by omega) (by omega)).mpr (by omega)))
          refine v_aload_n (pc := 55) hX rfl d_Tx_fitting_55 ?_
          refine v_iload_n (pc := 56) hX rfl d_Tx_fitting_56 ?_
          refine v_iload_n (pc := 57) hX rfl d_Tx_fitting_57 ?_
          refine v_iadd (pc := 58) hX d_Tx_fitting_58 ?_
          refine v_iload (pc := 59) hX rfl d_Tx_fitting_59 ?_
          refine v_iadd (pc := 61) hX d_Tx_fitting_61 ?_
          rw [← i3_add, ← i3_add]
          refine f_callV (pc := 62) hX k_Sh_at ki_Sh_at kv_Sh_at ml_Tx_9 (C_Sh_at (j := a + p + (2 + k)) hr hn hc (by omega)) (by assumption) rfl rfl rfl rfl (Nat.le_of_ble_eq_true rfl) (Nat.le_of_ble_eq_true rfl) (Nat.le_of_ble_eq_true rfl) d_Tx_fitting_62 ?_
          rw [show a + p + (2 + k) = a + (p + 2 + k) by omega, hq _ hpk]
          refine v_bipush (pc := 65) (v := 48) hX (by decide) d_Tx_fitting_65 ?_
          refine v_isub (pc := 67) hX d_Tx_fitting_67 ?_
          refine v_bipush (pc := 68) (v := 10) hX (by decide) d_Tx_fitting_68 ?_
          refine f_callN (pc := 70) hX k_LJ_isBelow ks_LJ_isBelow (by decide) (C_LJ_isBelow) rfl rfl rfl (Nat.le_of_ble_eq_true rfl) (Nat.le_of_ble_eq_true rfl) (Nat.le_of_ble_eq_true rfl) d_Tx_fitting_70 ?_
          rw [show (10 : Int32).toInt - 1 = 9 from rfl]
          refine f_ifeqB (pc := 73) (tgt := 82) hX d_Tx_fitting_73 rfl (fun h73 => ?_) (fun h73 => ?_)
          · have e : (fun i => !dgB q m (p + 2 + i)) k = true := by
              show (!dgB q m (p + 2 + k)) = true
              unfold dgB
              rw [h73]; simp
            refine v_iload (pc := 82) hX rfl d_Tx_fitting_82 ?_
            exact f_iret (pc := 84) hX hR (by have e2 := chs_eq hk e hIk; unfold ftJ; rw [if_pos hyes]; rw [e2]) (rfl) d_Tx_fitting_84
          · have e : dgB q m (p + 2 + k) = true := by unfold dgB; rw [h73, decide_eq_true hpk]; rfl
            refine v_iinc (pc := 76) (lo' := [some (vR _), some (vI _), some (vI _), some (vI _), some (vI _), some (vI _)]) hX rfl rfl d_Tx_fitting_76 ?_
            refine v_goto (pc := 79) (tgt := 40) hX d_Tx_fitting_79 rfl ?_
            exact VW.cast (by rw [show 2 + (k + 1) = (2 + k) + 1 by omega, i3_succ]; rfl) rfl rfl (ih40 (all_s hIk (by show (!dgB q m (p + 2 + k)) = false; rw [e]; rfl)))
      · show VW X 40 [some (vR r), some (vI (i3 a)), some (vI (i3 m)), some (vI (i3 p)), some (vI 6), some (vI (i3 (2 + (4))))] [] (gM (M))
        have hIk : ∀ i, i < (4) → (fun i => !dgB q m (p + 2 + i)) i = false := hIk
        refine v_iload (pc := 40) hX rfl d_Tx_fitting_40 ?_
        refine v_iload (pc := 42) hX rfl d_Tx_fitting_42 ?_
        refine v_icmp_ge (pc := 44) (tgt := 82) hX d_Tx_fitting_44 rfl (fun h44 => ?_) (fun h44 => False.elim (absurd (Int32.le_refl _) h44))
        refine v_iload (pc := 82) hX rfl d_Tx_fitting_82 ?_
        exact f_iret (pc := 84) hX hR (by have e2 := chs_none hIk; unfold ftJ; rw [if_pos hyes]; rw [e2]) (rfl) d_Tx_fitting_84
    · have hno : ftJ q m p = 1 := by
        unfold ftJ
        rw [if_neg (fun w => w.2 (by simpa using h31))]
      refine v_iload (pc := 34) hX rfl d_Tx_fitting_34 ?_
      exact f_iret (pc := 36) hX hR (by rw [hno]; rfl) (rfl) d_Tx_fitting_36
theorem C_Tx_fitting_5 {M : MM} {r c a m p : Nat} {q : Nat → Int32} (hr : SH[r]? = some (0, 5)) (hn : NF r 0 = c) (hc : SH[c]? = some (1, 60)) (ha : a + m ≤ 60) (hq : ∀ t, t < m → M c (a + t) = q t) (hp : p ≤ 100) : AF y_Tx_fitting c_Tx_fitting 6 (some .int) 3 [vR r, vI (i3 a), vI (i3 m), vI (i3 p), vI 5] (M) (some (vI (i3 (ftD q m p)))) (M) := by
  refine AF.of k_Tx_fitting (lo := [some (vR r), some (vI (i3 a)), some (vI (i3 m)), some (vI (i3 p)), some (vI 5), none]) rfl (Nat.le_of_ble_eq_true rfl) (fun X hX hR => ?_)
  refine v_iconst (pc := 0) (v := 1) hX (by decide) d_Tx_fitting_0 ?_
  refine v_istore (pc := 1) (lo' := [some (vR _), some (vI _), some (vI _), some (vI _), some (vI _), some (vI _)]) hX (Nat.le_of_ble_eq_true rfl) rfl d_Tx_fitting_1 ?_
  refine v_iload (pc := 3) hX rfl d_Tx_fitting_3 ?_
  refine v_bipush (pc := 5) (v := 6) hX (by decide) d_Tx_fitting_5 ?_
  refine v_icmp_ne (pc := 7) (tgt := 40) hX d_Tx_fitting_7 rfl (fun h7 => ?_) (fun h7 => False.elim (absurd h7 (by decide)))
  refine VW.cast (lo' := [some (vR r), some (vI (i3 a)), some (vI (i3 m)), some (vI (i3 p)), some (vI 5), some (vI (i3 (1 + 0)))]) (st' := []) (G' := gM (M)) rfl rfl rfl ?_
  refine v_forI (X := X) (head := 40) (4) (fun kk => [some (vR r), some (vI (i3 a)), some (vI (i3 m)), some (vI (i3 p)), some (vI 5), some (vI (i3 (1 + kk)))]) (fun kk => M) (fun kk => ∀ i, i < kk → (fun i => !dgB q m (p + 1 + i)) i = false) (fun i hi => absurd hi (Nat.not_lt_zero i)) (fun k hk hIk ih40 => ?_) (fun hIk => ?_)
  · show VW X 40 [some (vR r), some (vI (i3 a)), some (vI (i3 m)), some (vI (i3 p)), some (vI 5), some (vI (i3 (1 + k)))] [] (gM (M))
    have hIk : ∀ i, i < k → (fun i => !dgB q m (p + 1 + i)) i = false := hIk
    refine v_iload (pc := 40) hX rfl d_Tx_fitting_40 ?_
    refine v_iload (pc := 42) hX rfl d_Tx_fitting_42 ?_
    refine v_icmp_ge (pc := 44) (tgt := 82) hX d_Tx_fitting_44 rfl (fun h44 => False.elim (by have := (i3_le (a := 5) (b := 1 + k) (by omega) (by omega)).mp h44; omega)) (fun h44 => ?_)
    refine v_iload_n (pc := 47) hX rfl d_Tx_fitting_47 ?_
    refine v_iload (pc := 48) hX rfl d_Tx_fitting_48 ?_
    refine v_iadd (pc := 50) hX d_Tx_fitting_50 ?_
    refine v_iload_n (pc := 51) hX rfl d_Tx_fitting_51 ?_
    rw [← i3_add]
    refine v_icmp_ge (pc := 52) (tgt := 82) hX d_Tx_fitting_52 rfl (fun h52 => ?_) (fun h52 => ?_)
    · have e : (fun i => !dgB q m (p + 1 + i)) k = true := by
        show (!dgB q m (p + 1 + k)) = true
        unfold dgB
        rw [decide_eq_false (by have := (i3_le (by omega) (by omega)).mp h52; omega)]; rfl
      refine v_iload (pc := 82) hX rfl d_Tx_fitting_82 ?_
      exact f_iret (pc := 84) hX hR (by have e2 := chs_eq hk e hIk; unfold ftD; rw [e2]) (rfl) d_Tx_fitting_84
    · have hpk : p + 1 + k < m := Nat.lt_of_not_le (fun w => h52 ((i3_le (by omega) (by omega)).mpr (by omega)))
      refine v_aload_n (pc := 55) hX rfl d_Tx_fitting_55 ?_
      refine v_iload_n (pc := 56) hX rfl d_Tx_fitting_56 ?_
      refine v_iload_n (pc := 57) hX rfl d_Tx_fitting_57 ?_
      refine v_iadd (pc := 58) hX d_Tx_fitting_58 ?_
      refine v_iload (pc := 59) hX rfl d_Tx_fitting_59 ?_
      refine v_iadd (pc := 61) hX d_Tx_fitting_61 ?_
      rw [← i3_add, ← i3_add]
      refine f_callV (pc := 62) hX k_Sh_at ki_Sh_at kv_Sh_at ml_Tx_9 (C_Sh_at (j := a + p + (1 + k)) hr hn hc (by omega)) (by assumption) rfl rfl rfl rfl (Nat.le_of_ble_eq_true rfl) (Nat.le_of_ble_eq_true rfl) (Nat.le_of_ble_eq_true rfl) d_Tx_fitting_62 ?_
      rw [show a + p + (1 + k) = a + (p + 1 + k) by omega, hq _ hpk]
      refine v_bipush (pc := 65) (v := 48) hX (by decide) d_Tx_fitting_65 ?_
      refine v_isub (pc := 67) hX d_Tx_fitting_67 ?_
      refine v_bipush (pc := 68) (v := 10) hX (by decide) d_Tx_fitting_68 ?_
      refine f_callN (pc := 70) hX k_LJ_isBelow ks_LJ_isBelow (by decide) (C_LJ_isBelow) rfl rfl rfl (Nat.le_of_ble_eq_true rfl) (Nat.le_of_ble_eq_true rfl) (Nat.le_of_ble_eq_true rfl) d_Tx_fitting_70 ?_
      rw [show (10 : Int32).toInt - 1 = 9 from rfl]
      refine f_ifeqB (pc := 73) (tgt := 82) hX d_Tx_fitting_73 rfl (fun h73 => ?_) (fun h73 => ?_)
      · have e : (fun i => !dgB q m (p + 1 + i)) k = true := by
          show (!dgB q m (p + 1 + k)) = true
          unfold dgB
          rw [h73]; simp
        refine v_iload (pc := 82) hX rfl d_Tx_fitting_82 ?_
        exact f_iret (pc := 84) hX hR (by have e2 := chs_eq hk e hIk; unfold ftD; rw [e2]) (rfl) d_Tx_fitting_84
      · have e : dgB q m (p + 1 + k) = true := by unfold dgB; rw [h73, decide_eq_true hpk]; rfl
        refine v_iinc (pc := 76) (lo' := [some (vR _), some (vI _), some (vI _), some (vI _), some (vI _), some (vI _)]) hX rfl rfl d_Tx_fitting_76 ?_
        refine v_goto (pc := 79) (tgt := 40) hX d_Tx_fitting_79 rfl ?_
        exact VW.cast (by rw [show 1 + (k + 1) = (1 + k) + 1 by omega, i3_succ]; rfl) rfl rfl (ih40 (all_s hIk (by show (!dgB q m (p + 1 + k)) = false; rw [e]; rfl)))
  · show VW X 40 [some (vR r), some (vI (i3 a)), some (vI (i3 m)), some (vI (i3 p)), some (vI 5), some (vI (i3 (1 + (4))))] [] (gM (M))
    have hIk : ∀ i, i < (4) → (fun i => !dgB q m (p + 1 + i)) i = false := hIk
    refine v_iload (pc := 40) hX rfl d_Tx_fitting_40 ?_
    refine v_iload (pc := 42) hX rfl d_Tx_fitting_42 ?_
    refine v_icmp_ge (pc := 44) (tgt := 82) hX d_Tx_fitting_44 rfl (fun h44 => ?_) (fun h44 => False.elim (absurd (Int32.le_refl _) h44))
    refine v_iload (pc := 82) hX rfl d_Tx_fitting_82 ?_
    exact f_iret (pc := 84) hX hR (by have e2 := chs_none hIk; unfold ftD; rw [e2]) (rfl) d_Tx_fitting_84
theorem ff_0 {q : Nat → Int32} {m : Nat} (h : ¬ (0 < m ∧ q 0 = 116)) : ffO q m = some 0 := if_pos h
theorem ff_j {q : Nat → Int32} {m a : Nat} (h : 0 < m ∧ q 0 = 116) (hn : nJ q m = a) (ha : a < 6) (hs : stB q m (1 + 6 * a) 59 = true) : ffO q m = some (1 + 6 * a + ftJ q m (1 + 6 * a)) := by
  unfold ffO; rw [if_neg (fun w => w h), hn, if_pos ⟨ha, hs⟩]
theorem ff_1 {q : Nat → Int32} {m : Nat} (h : 0 < m ∧ q 0 = 116) (hn : nJ q m = 0) (hs : ¬ (0 < 6 ∧ stB q m (1 + 6 * 0) 59 = true)) : ffO q m = some 1 := by
  unfold ffO; rw [if_neg (fun w => w h), hn, if_neg hs, if_pos rfl]
theorem ff_d {q : Nat → Int32} {m a : Nat} (h : 0 < m ∧ q 0 = 116) (hn : nJ q m = a) (hs : ¬ (a < 6 ∧ stB q m (1 + 6 * a) 59 = true)) (ha : a ≠ 0) : ffO q m = ffD q m (1 + 6 * a) := by
  unfold ffO; rw [if_neg (fun w => w h), hn, if_neg hs, if_neg ha]
theorem fd_d {q : Nat → Int32} {m p b : Nat} (hn : nD q m p = b) (hb : b < 4) (hs : stB q m (p + 5 * b) 44 = true) : ffD q m p = some (p + 5 * b + ftD q m (p + 5 * b)) := by
  unfold ffD; rw [hn, if_pos ⟨hb, hs⟩]
theorem fd_e {q : Nat → Int32} {m p b : Nat} (hn : nD q m p = b) (hs : ¬ (b < 4 ∧ stB q m (p + 5 * b) 44 = true)) (h : b = 0 ∨ p + 5 * b < m) : ffD q m p = some (p + 5 * b) := by
  unfold ffD; rw [hn, if_neg hs, if_pos h]
theorem fd_ok {q : Nat → Int32} {m p b : Nat} (hn : nD q m p = b) (hs : ¬ (b < 4 ∧ stB q m (p + 5 * b) 44 = true)) (h : ¬ (b = 0 ∨ p + 5 * b < m)) : ffD q m p = none := by
  unfold ffD; rw [hn, if_neg hs, if_neg h]
theorem gJ_no1 {q : Nat → Int32} {m k : Nat} (h : stB q m (1 + 6 * k) 59 = false) : (!gJ q m k) = true := by unfold gJ; rw [h]; rfl
theorem gJ_no2 {q : Nat → Int32} {m k : Nat} (h : ¬ ftJ q m (1 + 6 * k) = 6) : (!gJ q m k) = true := by unfold gJ; rw [decide_eq_false h]; simp
theorem gJ_yes {q : Nat → Int32} {m k : Nat} (h1 : stB q m (1 + 6 * k) 59 = true) (h : ftJ q m (1 + 6 * k) = 6) : (!gJ q m k) = false := by unfold gJ; rw [h1, decide_eq_true h]; rfl
theorem gD_no1 {q : Nat → Int32} {m p k : Nat} (h : stB q m (p + 5 * k) 44 = false) : (!gD q m p k) = true := by unfold gD; rw [h]; rfl
theorem gD_no2 {q : Nat → Int32} {m p k : Nat} (h : ¬ ftD q m (p + 5 * k) = 5) : (!gD q m p k) = true := by unfold gD; rw [decide_eq_false h]; simp
theorem gD_yes {q : Nat → Int32} {m p k : Nat} (h1 : stB q m (p + 5 * k) 44 = true) (h : ftD q m (p + 5 * k) = 5) : (!gD q m p k) = false := by unfold gD; rw [h1, decide_eq_true h]; rfl
theorem d_Tx_firstFault_0 : decode c_Tx_firstFault 0 = .ok (.iload_n 2, 1) := by decide +kernel
theorem d_Tx_firstFault_1 : decode c_Tx_firstFault 1 = .ok (.iconst 1, 1) := by decide +kernel
theorem d_Tx_firstFault_2 : decode c_Tx_firstFault 2 = .ok (.if_icmp .lt 13, 3) := by decide +kernel
theorem d_Tx_firstFault_5 : decode c_Tx_firstFault 5 = .ok (.aload_n 0, 1) := by decide +kernel
theorem d_Tx_firstFault_6 : decode c_Tx_firstFault 6 = .ok (.iload_n 1, 1) := by decide +kernel
theorem d_Tx_firstFault_7 : decode c_Tx_firstFault 7 = .ok (.invokevirtual 9, 3) := by decide +kernel
theorem d_Tx_firstFault_10 : decode c_Tx_firstFault 10 = .ok (.bipush 116, 2) := by decide +kernel
theorem d_Tx_firstFault_12 : decode c_Tx_firstFault 12 = .ok (.if_icmp .eq 5, 3) := by decide +kernel
theorem d_Tx_firstFault_15 : decode c_Tx_firstFault 15 = .ok (.iconst 0, 1) := by decide +kernel
theorem d_Tx_firstFault_16 : decode c_Tx_firstFault 16 = .ok (.ireturn, 1) := by decide +kernel
theorem d_Tx_firstFault_17 : decode c_Tx_firstFault 17 = .ok (.iconst 1, 1) := by decide +kernel
theorem d_Tx_firstFault_18 : decode c_Tx_firstFault 18 = .ok (.istore_n 3, 1) := by decide +kernel
theorem d_Tx_firstFault_19 : decode c_Tx_firstFault 19 = .ok (.iconst 0, 1) := by decide +kernel
theorem d_Tx_firstFault_20 : decode c_Tx_firstFault 20 = .ok (.istore 4, 2) := by decide +kernel
theorem d_Tx_firstFault_22 : decode c_Tx_firstFault 22 = .ok (.iload 4, 2) := by decide +kernel
theorem d_Tx_firstFault_24 : decode c_Tx_firstFault 24 = .ok (.bipush 6, 2) := by decide +kernel
theorem d_Tx_firstFault_26 : decode c_Tx_firstFault 26 = .ok (.if_icmp .ge 47, 3) := by decide +kernel
theorem d_Tx_firstFault_29 : decode c_Tx_firstFault 29 = .ok (.aload_n 0, 1) := by decide +kernel
theorem d_Tx_firstFault_30 : decode c_Tx_firstFault 30 = .ok (.iload_n 1, 1) := by decide +kernel
theorem d_Tx_firstFault_31 : decode c_Tx_firstFault 31 = .ok (.iload_n 2, 1) := by decide +kernel
theorem d_Tx_firstFault_32 : decode c_Tx_firstFault 32 = .ok (.iload_n 3, 1) := by decide +kernel
theorem d_Tx_firstFault_33 : decode c_Tx_firstFault 33 = .ok (.bipush 59, 2) := by decide +kernel
theorem d_Tx_firstFault_35 : decode c_Tx_firstFault 35 = .ok (.invokestatic 15, 3) := by decide +kernel
theorem d_Tx_firstFault_38 : decode c_Tx_firstFault 38 = .ok (.ifCond .eq 35, 3) := by decide +kernel
theorem d_Tx_firstFault_41 : decode c_Tx_firstFault 41 = .ok (.aload_n 0, 1) := by decide +kernel
theorem d_Tx_firstFault_42 : decode c_Tx_firstFault 42 = .ok (.iload_n 1, 1) := by decide +kernel
theorem d_Tx_firstFault_43 : decode c_Tx_firstFault 43 = .ok (.iload_n 2, 1) := by decide +kernel
theorem d_Tx_firstFault_44 : decode c_Tx_firstFault 44 = .ok (.iload_n 3, 1) := by decide +kernel
theorem d_Tx_firstFault_45 : decode c_Tx_firstFault 45 = .ok (.bipush 6, 2) := by decide +kernel
theorem d_Tx_firstFault_47 : decode c_Tx_firstFault 47 = .ok (.invokestatic 21, 3) := by decide +kernel
theorem d_Tx_firstFault_50 : decode c_Tx_firstFault 50 = .ok (.istore 5, 2) := by decide +kernel
theorem d_Tx_firstFault_52 : decode c_Tx_firstFault 52 = .ok (.iload 5, 2) := by decide +kernel
theorem d_Tx_firstFault_54 : decode c_Tx_firstFault 54 = .ok (.bipush 6, 2) := by decide +kernel
theorem d_Tx_firstFault_56 : decode c_Tx_firstFault 56 = .ok (.if_icmp .ge 8, 3) := by decide +kernel
theorem d_Tx_firstFault_59 : decode c_Tx_firstFault 59 = .ok (.iload_n 3, 1) := by decide +kernel
theorem d_Tx_firstFault_60 : decode c_Tx_firstFault 60 = .ok (.iload 5, 2) := by decide +kernel
theorem d_Tx_firstFault_62 : decode c_Tx_firstFault 62 = .ok (.iadd, 1) := by decide +kernel
theorem d_Tx_firstFault_63 : decode c_Tx_firstFault 63 = .ok (.ireturn, 1) := by decide +kernel
theorem d_Tx_firstFault_64 : decode c_Tx_firstFault 64 = .ok (.iinc 3 6, 3) := by decide +kernel
theorem d_Tx_firstFault_67 : decode c_Tx_firstFault 67 = .ok (.iinc 4 1, 3) := by decide +kernel
theorem d_Tx_firstFault_70 : decode c_Tx_firstFault 70 = .ok (.goto (-48), 3) := by decide +kernel
theorem d_Tx_firstFault_73 : decode c_Tx_firstFault 73 = .ok (.iload_n 3, 1) := by decide +kernel
theorem d_Tx_firstFault_74 : decode c_Tx_firstFault 74 = .ok (.iconst 1, 1) := by decide +kernel
theorem d_Tx_firstFault_75 : decode c_Tx_firstFault 75 = .ok (.if_icmp .ne 5, 3) := by decide +kernel
theorem d_Tx_firstFault_78 : decode c_Tx_firstFault 78 = .ok (.iload_n 3, 1) := by decide +kernel
theorem d_Tx_firstFault_79 : decode c_Tx_firstFault 79 = .ok (.ireturn, 1) := by decide +kernel
theorem d_Tx_firstFault_80 : decode c_Tx_firstFault 80 = .ok (.iload_n 3, 1) := by decide +kernel
theorem d_Tx_firstFault_81 : decode c_Tx_firstFault 81 = .ok (.istore 4, 2) := by decide +kernel
theorem d_Tx_firstFault_83 : decode c_Tx_firstFault 83 = .ok (.iconst 0, 1) := by decide +kernel
theorem d_Tx_firstFault_84 : decode c_Tx_firstFault 84 = .ok (.istore 5, 2) := by decide +kernel
theorem d_Tx_firstFault_86 : decode c_Tx_firstFault 86 = .ok (.iload 5, 2) := by decide +kernel
theorem d_Tx_firstFault_88 : decode c_Tx_firstFault 88 = .ok (.iconst 4, 1) := by decide +kernel
theorem d_Tx_firstFault_89 : decode c_Tx_firstFault 89 = .ok (.if_icmp .ge 45, 3) := by decide +kernel
theorem d_Tx_firstFault_92 : decode c_Tx_firstFault 92 = .ok (.aload_n 0, 1) := by decide +kernel
theorem d_Tx_firstFault_93 : decode c_Tx_firstFault 93 = .ok (.iload_n 1, 1) := by decide +kernel
theorem d_Tx_firstFault_94 : decode c_Tx_firstFault 94 = .ok (.iload_n 2, 1) := by decide +kernel
theorem d_Tx_firstFault_95 : decode c_Tx_firstFault 95 = .ok (.iload_n 3, 1) := by decide +kernel
theorem d_Tx_firstFault_96 : decode c_Tx_firstFault 96 = .ok (.bipush 44, 2) := by decide +kernel
theorem d_Tx_firstFault_98 : decode c_Tx_firstFault 98 = .ok (.invokestatic 15, 3) := by decide +kernel
theorem d_Tx_firstFault_101 : decode c_Tx_firstFault 101 = .ok (.ifCond .eq 33, 3) := by decide +kernel
theorem d_Tx_firstFault_104 : decode c_Tx_firstFault 104 = .ok (.aload_n 0, 1) := by decide +kernel
theorem d_Tx_firstFault_105 : decode c_Tx_firstFault 105 = .ok (.iload_n 1, 1) := by decide +kernel
theorem d_Tx_firstFault_106 : decode c_Tx_firstFault 106 = .ok (.iload_n 2, 1) := by decide +kernel
theorem d_Tx_firstFault_107 : decode c_Tx_firstFault 107 = .ok (.iload_n 3, 1) := by decide +kernel
theorem d_Tx_firstFault_108 : decode c_Tx_firstFault 108 = .ok (.iconst 5, 1) := by decide +kernel
theorem d_Tx_firstFault_109 : decode c_Tx_firstFault 109 = .ok (.invokestatic 21, 3) := by decide +kernel
theorem d_Tx_firstFault_112 : decode c_Tx_firstFault 112 = .ok (.istore 6, 2) := by decide +kernel
theorem d_Tx_firstFault_114 : decode c_Tx_firstFault 114 = .ok (.iload 6, 2) := by decide +kernel
theorem d_Tx_firstFault_116 : decode c_Tx_firstFault 116 = .ok (.iconst 5, 1) := by decide +kernel
theorem d_Tx_firstFault_117 : decode c_Tx_firstFault 117 = .ok (.if_icmp .ge 8, 3) := by decide +kernel
theorem d_Tx_firstFault_120 : decode c_Tx_firstFault 120 = .ok (.iload_n 3, 1) := by decide +kernel
theorem d_Tx_firstFault_121 : decode c_Tx_firstFault 121 = .ok (.iload 6, 2) := by decide +kernel
theorem d_Tx_firstFault_123 : decode c_Tx_firstFault 123 = .ok (.iadd, 1) := by decide +kernel
theorem d_Tx_firstFault_124 : decode c_Tx_firstFault 124 = .ok (.ireturn, 1) := by decide +kernel
theorem d_Tx_firstFault_125 : decode c_Tx_firstFault 125 = .ok (.iinc 3 5, 3) := by decide +kernel
theorem d_Tx_firstFault_128 : decode c_Tx_firstFault 128 = .ok (.iinc 5 1, 3) := by decide +kernel
theorem d_Tx_firstFault_131 : decode c_Tx_firstFault 131 = .ok (.goto (-45), 3) := by decide +kernel
theorem d_Tx_firstFault_134 : decode c_Tx_firstFault 134 = .ok (.iload_n 3, 1) := by decide +kernel
theorem d_Tx_firstFault_135 : decode c_Tx_firstFault 135 = .ok (.iload 4, 2) := by decide +kernel
theorem d_Tx_firstFault_137 : decode c_Tx_firstFault 137 = .ok (.if_icmp .eq 8, 3) := by decide +kernel
theorem d_Tx_firstFault_140 : decode c_Tx_firstFault 140 = .ok (.iload_n 3, 1) := by decide +kernel
theorem d_Tx_firstFault_141 : decode c_Tx_firstFault 141 = .ok (.iload_n 2, 1) := by decide +kernel
theorem d_Tx_firstFault_142 : decode c_Tx_firstFault 142 = .ok (.if_icmp .ge 7, 3) := by decide +kernel
theorem d_Tx_firstFault_145 : decode c_Tx_firstFault 145 = .ok (.iload_n 3, 1) := by decide +kernel
theorem d_Tx_firstFault_146 : decode c_Tx_firstFault 146 = .ok (.goto 5, 3) := by decide +kernel
theorem d_Tx_firstFault_149 : decode c_Tx_firstFault 149 = .ok (.bipush (-9), 2) := by decide +kernel
theorem d_Tx_firstFault_151 : decode c_Tx_firstFault 151 = .ok (.ireturn, 1) := by decide +kernel
set_option maxHeartbeats 4000000 in
theorem C_Tx_firstFault {M : MM} {r c a m : Nat} {q : Nat → Int32} (hr : SH[r]? = some (0, 5)) (hn : NF r 0 = c) (hc : SH[c]? = some (1, 60)) (ha : a + m ≤ 60) (hq : ∀ t, t < m → M c (a + t) = q t) : AF y_Tx_firstFault c_Tx_firstFault 7 (some .int) 4 [vR r, vI (i3 a), vI (i3 m)] (M) (some (vI (eo (ffO q m)))) (M) := by
  refine AF.of k_Tx_firstFault (lo := [some (vR r), some (vI (i3 a)), some (vI (i3 m)), none, none, none, none]) rfl (Nat.le_of_ble_eq_true rfl) (fun X hX hR => ?_)
  have j73 : ∀ (x : Nat), x ≤ 6 → (0 < m ∧ q 0 = 116) → nJ q m = x → ¬ (x < 6 ∧ stB q m (1 + 6 * x) 59 = true) → VW X 73 [some (vR r), some (vI (i3 a)), some (vI (i3 m)), some (vI (i3 (1 + 6 * x))), none, none, none] [] (gM (M)) := by
    intro x hx h0 hxn hxs
    refine v_iload_n (pc := 73) hX rfl d_Tx_firstFault_73 ?_
    refine v_iconst (pc := 74) (v := 1) hX (by decide) d_Tx_firstFault_74 ?_
    refine v_icmp_ne (pc := 75) (tgt := 80) hX d_Tx_firstFault_75 rfl (fun h75 => ?_) (fun h75 => ?_)
    · have hx0 : x ≠ 0 := fun w => h75 (by rw [w]; rfl)
      refine v_iload_n (pc := 80) hX rfl d_Tx_firstFault_80 ?_
      refine v_istore (pc := 81) (lo' := [some (vR _), some (vI _), some (vI _), some (vI _), some (vI _), none, none]) hX (Nat.le_of_ble_eq_true rfl) rfl d_Tx_firstFault_81 ?_
      refine v_iconst (pc := 83) (v := 0) hX (by decide) d_Tx_firstFault_83 ?_
      refine v_istore (pc := 84) (lo' := [some (vR _), some (vI _), some (vI _), some (vI _), some (vI _), some (vI _), none]) hX (Nat.le_of_ble_eq_true rfl) rfl d_Tx_firstFault_84 ?_
      refine VW.cast (lo' := [some (vR r), some (vI (i3 a)), some (vI (i3 m)), some (vI (i3 (1 + 6 * x + 5 * 0))), some (vI (i3 (1 + 6 * x))), some (vI (i3 0)), none]) (st' := []) (G' := gM (M)) rfl rfl rfl ?_
      refine v_forI (X := X) (head := 86) (4) (fun kk => [some (vR r), some (vI (i3 a)), some (vI (i3 m)), some (vI (i3 (1 + 6 * x + 5 * kk))), some (vI (i3 (1 + 6 * x))), some (vI (i3 kk)), none]) (fun kk => M) (fun kk => ∀ i, i < kk → (fun k => !gD q m (1 + 6 * x) k) i = false) (fun i hi => absurd hi (Nat.not_lt_zero i)) (fun k hk hIk ih86 => ?_) (fun hIk => ?_)
      · show VW X 86 [some (vR r), some (vI (i3 a)), some (vI (i3 m)), some (vI (i3 (1 + 6 * x + 5 * k))), some (vI (i3 (1 + 6 * x))), some (vI (i3 k)), none] [] (gM (M))
        have hIk : ∀ i, i < k → (fun k => !gD q m (1 + 6 * x) k) i = false := hIk
        refine v_iload (pc := 86) hX rfl d_Tx_firstFault_86 ?_
        refine v_iconst (pc := 88) (v := 4) hX (by decide) d_Tx_firstFault_88 ?_
        refine v_icmp_ge (pc := 89) (tgt := 134) hX d_Tx_firstFault_89 rfl (fun h89 => False.elim (i3_ge_abs hk (by decide) h89)) (fun h89 => ?_)
        refine v_aload_n (pc := 92) hX rfl d_Tx_firstFault_92 ?_
        refine v_iload_n (pc := 93) hX rfl d_Tx_firstFault_93 ?_
        refine v_iload_n (pc := 94) hX rfl d_Tx_firstFault_94 ?_
        refine v_iload_n (pc := 95) hX rfl d_Tx_firstFault_95 ?_
        refine v_bipush (pc := 96) (v := 44) hX (by decide) d_Tx_firstFault_96 ?_
        refine f_callS (pc := 98) hX k_Tx_startsWith ks_Tx_startsWith ml_Tx_15 (C_Tx_startsWith hr hn hc ha hq (by omega)) rfl rfl rfl (Nat.le_of_ble_eq_true rfl) (Nat.le_of_ble_eq_true rfl) (Nat.le_of_ble_eq_true rfl) d_Tx_firstFault_98 ?_
        refine f_ifeqB (pc := 101) (tgt := 134) hX d_Tx_firstFault_101 rfl (fun h101 => ?_) (fun h101 => ?_)
        · have hnD : nD q m (1 + 6 * x) = k := chs_eq hk (gD_no1 h101) hIk
          have hsD : ¬ (k < 4 ∧ stB q m (1 + 6 * x + 5 * k) 44 = true) := fun w => by rw [h101] at w; exact absurd w.2 (by decide)
          refine v_iload_n (pc := 134) hX rfl d_Tx_firstFault_134 ?_
          refine v_iload (pc := 135) hX rfl d_Tx_firstFault_135 ?_
          refine v_icmp_eq (pc := 137) (tgt := 145) hX d_Tx_firstFault_137 rfl (fun h137 => ?_) (fun h137 => ?_)
          · have hb0 : k = 0 := by have := (i3_inj (by omega) (by omega)).mp h137; omega
            refine v_iload_n (pc := 145) hX rfl d_Tx_firstFault_145 ?_
            refine v_goto (pc := 146) (tgt := 151) hX d_Tx_firstFault_146 rfl ?_
            exact f_iret (pc := 151) hX hR (by rw [ff_d h0 hxn hxs hx0]; first | (rw [fd_e hnD hsD (Or.inl hb0)]; rfl) | (rw [fd_e hnD hsD hm]; rfl) | (rw [fd_ok hnD hsD hm]; rfl)) (rfl) d_Tx_firstFault_151
          · have hb0 : ¬ k = 0 := fun w => h137 (by rw [w]; rfl)
            refine v_iload_n (pc := 140) hX rfl d_Tx_firstFault_140 ?_
            refine v_iload_n (pc := 141) hX rfl d_Tx_firstFault_141 ?_
            refine v_icmp_ge (pc := 142) (tgt := 149) hX d_Tx_firstFault_142 rfl (fun h142 => ?_) (fun h142 => ?_)
            · have hm : ¬ (k = 0 ∨ 1 + 6 * x + 5 * k < m) := by have := (i3_le (by omega) (by omega)).mp h142; omega
              refine v_bipush (pc := 149) (v := (-9)) hX (by decide) d_Tx_firstFault_149 ?_
              exact f_iret (pc := 151) hX hR (by rw [ff_d h0 hxn hxs hx0]; first | (rw [fd_e hnD hsD (Or.inl hb0)]; rfl) | (rw [fd_e hnD hsD hm]; rfl) | (rw [fd_ok hnD hsD hm]; rfl)) (rfl) d_Tx_firstFault_151
            · have hm : k = 0 ∨ 1 + 6 * x + 5 * k < m := Or.inr (Nat.lt_of_not_le (fun w => h142 ((i3_le (by omega) (by omega)).mpr w)))
              refine v_iload_n (pc := 145) hX rfl d_Tx_firstFault_145 ?_
              refine v_goto (pc := 146) (tgt := 151) hX d_Tx_firstFault_146 rfl ?_
              exact f_iret (pc := 151) hX hR (by rw [ff_d h0 hxn hxs hx0]; first | (rw [fd_e hnD hsD (Or.inl hb0)]; rfl) | (rw [fd_e hnD hsD hm]; rfl) | (rw [fd_ok hnD hsD hm]; rfl)) (rfl) d_Tx_firstFault_151
        · refine v_aload_n (pc := 104) hX rfl d_Tx_firstFault_104 ?_
          refine v_iload_n (pc := 105) hX rfl d_Tx_firstFault_105 ?_
          refine v_iload_n (pc := 106) hX rfl d_Tx_firstFault_106 ?_
          refine v_iload_n (pc := 107) hX rfl d_Tx_firstFault_107 ?_
          refine v_iconst (pc := 108) (v := 5) hX (by decide) d_Tx_firstFault_108 ?_
          refine f_callS (pc := 109) hX k_Tx_fitting ks_Tx_fitting ml_Tx_21 (C_Tx_fitting_5 hr hn hc ha hq (by omega)) rfl rfl rfl (Nat.le_of_ble_eq_true rfl) (Nat.le_of_ble_eq_true rfl) (Nat.le_of_ble_eq_true rfl) d_Tx_firstFault_109 ?_
          refine v_istore (pc := 112) (lo' := [some (vR _), some (vI _), some (vI _), some (vI _), some (vI _), some (vI _), some (vI _)]) hX (Nat.le_of_ble_eq_true rfl) rfl d_Tx_firstFault_112 ?_
          refine v_iload (pc := 114) hX rfl d_Tx_firstFault_114 ?_
          refine v_iconst (pc := 116) (v := 5) hX (by decide) d_Tx_firstFault_116 ?_
          refine v_icmp_ge (pc := 117) (tgt := 125) hX d_Tx_firstFault_117 rfl (fun h117 => ?_) (fun h117 => ?_)
          · have e6 : ftD q m (1 + 6 * x + 5 * k) = 5 := by have := ftD_le q m (1 + 6 * x + 5 * k); have := (i3_le (a := 5) (by decide) (by omega)).mp h117; omega
            have e : (fun k => !gD q m (1 + 6 * x) k) k = false := gD_yes h101 e6
            refine v_iinc (pc := 125) (lo' := [some (vR _), some (vI _), some (vI _), some (vI _), some (vI _), some (vI _), some (vI _)]) hX rfl rfl d_Tx_firstFault_125 ?_
            refine v_iinc (pc := 128) (lo' := [some (vR _), some (vI _), some (vI _), some (vI _), some (vI _), some (vI _), some (vI _)]) hX rfl rfl d_Tx_firstFault_128 ?_
            refine v_goto (pc := 131) (tgt := 86) hX d_Tx_firstFault_131 rfl ?_
            refine VW.fg [true, true, true, true, true, true, false] ?_
            exact VW.cast (by rw [show 1 + 6 * x + 5 * (k + 1) = (1 + 6 * x + 5 * k) + 5 by omega, i3_add _ 5, i3_succ k]; rfl) rfl rfl (ih86 (all_s hIk e))
          · have e6 : ¬ ftD q m (1 + 6 * x + 5 * k) = 5 := fun w => h117 (by rw [w]; exact Int32.le_refl _)
            refine v_iload_n (pc := 120) hX rfl d_Tx_firstFault_120 ?_
            refine v_iload (pc := 121) hX rfl d_Tx_firstFault_121 ?_
            refine v_iadd (pc := 123) hX d_Tx_firstFault_123 ?_
            exact f_iret (pc := 124) hX hR (by rw [ff_d h0 hxn hxs hx0, fd_d (chs_eq hk (gD_no2 e6) hIk) hk h101, ← i3_add]; rfl) (rfl) d_Tx_firstFault_124
      · show VW X 86 [some (vR r), some (vI (i3 a)), some (vI (i3 m)), some (vI (i3 (1 + 6 * x + 5 * (4)))), some (vI (i3 (1 + 6 * x))), some (vI (i3 (4))), none] [] (gM (M))
        have hIk : ∀ i, i < (4) → (fun k => !gD q m (1 + 6 * x) k) i = false := hIk
        have hnD : nD q m (1 + 6 * x) = 4 := chs_none hIk
        have hsD : ¬ (4 < 4 ∧ stB q m (1 + 6 * x + 5 * 4) 44 = true) := fun w => absurd w.1 (by decide)
        refine v_iload (pc := 86) hX rfl d_Tx_firstFault_86 ?_
        refine v_iconst (pc := 88) (v := 4) hX (by decide) d_Tx_firstFault_88 ?_
        refine v_icmp_ge (pc := 89) (tgt := 134) hX d_Tx_firstFault_89 rfl (fun h89 => ?_) (fun h89 => False.elim (by revert h89; decide))
        refine v_iload_n (pc := 134) hX rfl d_Tx_firstFault_134 ?_
        refine v_iload (pc := 135) hX rfl d_Tx_firstFault_135 ?_
        refine v_icmp_eq (pc := 137) (tgt := 145) hX d_Tx_firstFault_137 rfl (fun h137 => ?_) (fun h137 => ?_)
        · have hb0 : 4 = 0 := by have := (i3_inj (by omega) (by omega)).mp h137; omega
          refine v_iload_n (pc := 145) hX rfl d_Tx_firstFault_145 ?_
          refine v_goto (pc := 146) (tgt := 151) hX d_Tx_firstFault_146 rfl ?_
          exact f_iret (pc := 151) hX hR (by rw [ff_d h0 hxn hxs hx0]; first | (rw [fd_e hnD hsD (Or.inl hb0)]; rfl) | (rw [fd_e hnD hsD hm]; rfl) | (rw [fd_ok hnD hsD hm]; rfl)) (rfl) d_Tx_firstFault_151
        · have hb0 : ¬ 4 = 0 := fun w => h137 (by rw [w]; rfl)
          refine v_iload_n (pc := 140) hX rfl d_Tx_firstFault_140 ?_
          refine v_iload_n (pc := 141) hX rfl d_Tx_firstFault_141 ?_
          refine v_icmp_ge (pc := 142) (tgt := 149) hX d_Tx_firstFault_142 rfl (fun h142 => ?_) (fun h142 => ?_)
          · have hm : ¬ (4 = 0 ∨ 1 + 6 * x + 5 * 4 < m) := by have := (i3_le (by omega) (by omega)).mp h142; omega
            refine v_bipush (pc := 149) (v := (-9)) hX (by decide) d_Tx_firstFault_149 ?_
            exact f_iret (pc := 151) hX hR (by rw [ff_d h0 hxn hxs hx0]; first | (rw [fd_e hnD hsD (Or.inl hb0)]; rfl) | (rw [fd_e hnD hsD hm]; rfl) | (rw [fd_ok hnD hsD hm]; rfl)) (rfl) d_Tx_firstFault_151
          · have hm : 4 = 0 ∨ 1 + 6 * x + 5 * 4 < m := Or.inr (Nat.lt_of_not_le (fun w => h142 ((i3_le (by omega) (by omega)).mpr w)))
            refine v_iload_n (pc := 145) hX rfl d_Tx_firstFault_145 ?_
            refine v_goto (pc := 146) (tgt := 151) hX d_Tx_firstFault_146 rfl ?_
            exact f_iret (pc := 151) hX hR (by rw [ff_d h0 hxn hxs hx0]; first | (rw [fd_e hnD hsD (Or.inl hb0)]; rfl) | (rw [fd_e hnD hsD hm]; rfl) | (rw [fd_ok hnD hsD hm]; rfl)) (rfl) d_Tx_firstFault_151
    · have hx0 : x = 0 := by
        have e := (i3_inj (a := 1 + 6 * x) (b := 1) (by omega) (by decide)).mp h75
        omega
      refine v_iload_n (pc := 78) hX rfl d_Tx_firstFault_78 ?_
      exact f_iret (pc := 79) hX hR (by subst hx0; rw [ff_1 h0 hxn hxs]; rfl) (rfl) d_Tx_firstFault_79
  refine v_iload_n (pc := 0) hX rfl d_Tx_firstFault_0 ?_
  refine v_iconst (pc := 1) (v := 1) hX (by decide) d_Tx_firstFault_1 ?_
  refine v_icmp_lt (pc := 2) (tgt := 15) hX d_Tx_firstFault_2 rfl (fun h2 => ?_) (fun h2 => ?_)
  · have hf : ffO q m = some 0 := ff_0 (by have := (i3_lt (b := 1) (by omega) (by decide)).mp h2; omega)
    refine v_iconst (pc := 15) (v := 0) hX (by decide) d_Tx_firstFault_15 ?_
    exact f_iret (pc := 16) hX hR (by rw [hf]; rfl) (rfl) d_Tx_firstFault_16
  · have hm0 : 0 < m := Nat.pos_of_ne_zero (fun w => h2 (by rw [w]; decide))
    refine v_aload_n (pc := 5) hX rfl d_Tx_firstFault_5 ?_
    refine v_iload_n (pc := 6) hX rfl d_Tx_firstFault_6 ?_
    refine f_callV (pc := 7) hX k_Sh_at ki_Sh_at kv_Sh_at ml_Tx_9 (C_Sh_at (j := a) hr hn hc (by omega)) (by assumption) rfl rfl rfl rfl (Nat.le_of_ble_eq_true rfl) (Nat.le_of_ble_eq_true rfl) (Nat.le_of_ble_eq_true rfl) d_Tx_firstFault_7 ?_
    rw [show M c a = q 0 from hq 0 hm0]
    refine v_bipush (pc := 10) (v := 116) hX (by decide) d_Tx_firstFault_10 ?_
    refine v_icmp_eq (pc := 12) (tgt := 17) hX d_Tx_firstFault_12 rfl (fun h12 => ?_) (fun h12 => ?_)
    · have h0 : 0 < m ∧ q 0 = 116 := ⟨hm0, h12⟩
      refine v_iconst (pc := 17) (v := 1) hX (by decide) d_Tx_firstFault_17 ?_
      refine v_istore_n (pc := 18) (lo' := [some (vR _), some (vI _), some (vI _), some (vI _), none, none, none]) hX (Nat.le_of_ble_eq_true rfl) rfl d_Tx_firstFault_18 ?_
      refine v_iconst (pc := 19) (v := 0) hX (by decide) d_Tx_firstFault_19 ?_
      refine v_istore (pc := 20) (lo' := [some (vR _), some (vI _), some (vI _), some (vI _), some (vI _), none, none]) hX (Nat.le_of_ble_eq_true rfl) rfl d_Tx_firstFault_20 ?_
      refine VW.cast (lo' := [some (vR r), some (vI (i3 a)), some (vI (i3 m)), some (vI (i3 (1 + 6 * 0))), some (vI (i3 0)), none, none]) (st' := []) (G' := gM (M)) rfl rfl rfl ?_
      refine v_forI (X := X) (head := 22) (6) (fun kk => [some (vR r), some (vI (i3 a)), some (vI (i3 m)), some (vI (i3 (1 + 6 * kk))), some (vI (i3 kk)), none, none]) (fun kk => M) (fun kk => ∀ i, i < kk → (fun k => !gJ q m k) i = false) (fun i hi => absurd hi (Nat.not_lt_zero i)) (fun k hk hIk ih22 => ?_) (fun hIk => ?_)
      · show VW X 22 [some (vR r), some (vI (i3 a)), some (vI (i3 m)), some (vI (i3 (1 + 6 * k))), some (vI (i3 k)), none, none] [] (gM (M))
        have hIk : ∀ i, i < k → (fun k => !gJ q m k) i = false := hIk
        refine v_iload (pc := 22) hX rfl d_Tx_firstFault_22 ?_
        refine v_bipush (pc := 24) (v := 6) hX (by decide) d_Tx_firstFault_24 ?_
        refine v_icmp_ge (pc := 26) (tgt := 73) hX d_Tx_firstFault_26 rfl (fun h26 => False.elim (i3_ge_abs hk (by decide) h26)) (fun h26 => ?_)
        refine v_aload_n (pc := 29) hX rfl d_Tx_firstFault_29 ?_
        refine v_iload_n (pc := 30) hX rfl d_Tx_firstFault_30 ?_
        refine v_iload_n (pc := 31) hX rfl d_Tx_firstFault_31 ?_
        refine v_iload_n (pc := 32) hX rfl d_Tx_firstFault_32 ?_
        refine v_bipush (pc := 33) (v := 59) hX (by decide) d_Tx_firstFault_33 ?_
        refine f_callS (pc := 35) hX k_Tx_startsWith ks_Tx_startsWith ml_Tx_15 (C_Tx_startsWith hr hn hc ha hq (by omega)) rfl rfl rfl (Nat.le_of_ble_eq_true rfl) (Nat.le_of_ble_eq_true rfl) (Nat.le_of_ble_eq_true rfl) d_Tx_firstFault_35 ?_
        refine f_ifeqB (pc := 38) (tgt := 73) hX d_Tx_firstFault_38 rfl (fun h38 => ?_) (fun h38 => ?_)
        · refine VW.fg [true, true, true, true, false, true, true] ?_
          exact VW.cast rfl rfl rfl (j73 k (by omega) h0 (chs_eq hk (gJ_no1 h38) hIk) (fun w => by rw [h38] at w; exact absurd w.2 (by decide)))
        · refine v_aload_n (pc := 41) hX rfl d_Tx_firstFault_41 ?_
          refine v_iload_n (pc := 42) hX rfl d_Tx_firstFault_42 ?_
          refine v_iload_n (pc := 43) hX rfl d_Tx_firstFault_43 ?_
          refine v_iload_n (pc := 44) hX rfl d_Tx_firstFault_44 ?_
          refine v_bipush (pc := 45) (v := 6) hX (by decide) d_Tx_firstFault_45 ?_
          refine f_callS (pc := 47) hX k_Tx_fitting ks_Tx_fitting ml_Tx_21 (C_Tx_fitting_6 hr hn hc ha hq (by omega)) rfl rfl rfl (Nat.le_of_ble_eq_true rfl) (Nat.le_of_ble_eq_true rfl) (Nat.le_of_ble_eq_true rfl) d_Tx_firstFault_47 ?_
          refine v_istore (pc := 50) (lo' := [some (vR _), some (vI _), some (vI _), some (vI _), some (vI _), some (vI _), none]) hX (Nat.le_of_ble_eq_true rfl) rfl d_Tx_firstFault_50 ?_
          refine v_iload (pc := 52) hX rfl d_Tx_firstFault_52 ?_
          refine v_bipush (pc := 54) (v := 6) hX (by decide) d_Tx_firstFault_54 ?_
          refine v_icmp_ge (pc := 56) (tgt := 64) hX d_Tx_firstFault_56 rfl (fun h56 => ?_) (fun h56 => ?_)
          · have e6 : ftJ q m (1 + 6 * k) = 6 := by have := ftJ_le q m (1 + 6 * k); have := (i3_le (a := 6) (by decide) (by omega)).mp h56; omega
            have e : (fun k => !gJ q m k) k = false := gJ_yes h38 e6
            refine v_iinc (pc := 64) (lo' := [some (vR _), some (vI _), some (vI _), some (vI _), some (vI _), some (vI _), none]) hX rfl rfl d_Tx_firstFault_64 ?_
            refine v_iinc (pc := 67) (lo' := [some (vR _), some (vI _), some (vI _), some (vI _), some (vI _), some (vI _), none]) hX rfl rfl d_Tx_firstFault_67 ?_
            refine v_goto (pc := 70) (tgt := 22) hX d_Tx_firstFault_70 rfl ?_
            refine VW.fg [true, true, true, true, true, false, true] ?_
            exact VW.cast (by rw [show 1 + 6 * (k + 1) = (1 + 6 * k) + 6 by omega, i3_add _ 6, i3_succ k]; rfl) rfl rfl (ih22 (all_s hIk e))
          · have e6 : ¬ ftJ q m (1 + 6 * k) = 6 := fun w => h56 (by rw [w]; exact Int32.le_refl _)
            refine v_iload_n (pc := 59) hX rfl d_Tx_firstFault_59 ?_
            refine v_iload (pc := 60) hX rfl d_Tx_firstFault_60 ?_
            refine v_iadd (pc := 62) hX d_Tx_firstFault_62 ?_
            exact f_iret (pc := 63) hX hR (by rw [ff_j h0 (chs_eq hk (gJ_no2 e6) hIk) hk h38, ← i3_add]; rfl) (rfl) d_Tx_firstFault_63
      · show VW X 22 [some (vR r), some (vI (i3 a)), some (vI (i3 m)), some (vI (i3 (1 + 6 * (6)))), some (vI (i3 (6))), none, none] [] (gM (M))
        have hIk : ∀ i, i < (6) → (fun k => !gJ q m k) i = false := hIk
        refine v_iload (pc := 22) hX rfl d_Tx_firstFault_22 ?_
        refine v_bipush (pc := 24) (v := 6) hX (by decide) d_Tx_firstFault_24 ?_
        refine v_icmp_ge (pc := 26) (tgt := 73) hX d_Tx_firstFault_26 rfl (fun h26 => ?_) (fun h26 => False.elim (by revert h26; decide))
        refine VW.fg [true, true, true, true, false, true, true] ?_
        exact VW.cast rfl rfl rfl (j73 6 (Nat.le_refl _) h0 (chs_none hIk) (fun w => absurd w.1 (by decide)))
    · have hf : ffO q m = some 0 := ff_0 (fun w => h12 w.2)
      refine v_iconst (pc := 15) (v := 0) hX (by decide) d_Tx_firstFault_15 ?_
      exact f_iret (pc := 16) hX hR (by rw [hf]; rfl) (rfl) d_Tx_firstFault_16
end
