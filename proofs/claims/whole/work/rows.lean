section
-- ===== PART A: goes FIRST, ahead of the names: the tables' words, and 'selects' of the private methods out of them =====
/-- a private method of a class that the tables say can be made, by its rows of tables_1 -/
def lw_okq (q : MethodName × Nat) : Prop := (q.1.cls ≠ "java/lang/invoke/MethodHandle" ∧ q.1.cls ≠ "java/lang/invoke/VarHandle") ∧ Cond.instantiable q.1.cls q.2 ∈ tables_1 ∧ Cond.privateMethod q.1 ∈ tables_1 ∧ Cond.instanceMethod q.1 ∈ tables_1
theorem lw_p0 : lw_okq (⟨"OneTuneNine", "refuse", "(I)I"⟩, 8) := ⟨⟨by decide +kernel, by decide +kernel⟩, List.mem_of_getElem? (i := 16) (by decide +kernel), List.mem_of_getElem? (i := 210) (by decide +kernel), List.mem_of_getElem? (i := 211) (by decide +kernel)⟩
theorem lw_p1 : lw_okq (⟨"OneTuneNine$Text", "formAt", "(I)Ljava/lang/String;"⟩, 1) := ⟨⟨by decide +kernel, by decide +kernel⟩, List.mem_of_getElem? (i := 152) (by decide +kernel), List.mem_of_getElem? (i := 235) (by decide +kernel), List.mem_of_getElem? (i := 236) (by decide +kernel)⟩
theorem lw_p2 : lw_okq (⟨"OneTuneNine$Text", "at", "(I)I"⟩, 1) := ⟨⟨by decide +kernel, by decide +kernel⟩, List.mem_of_getElem? (i := 152) (by decide +kernel), List.mem_of_getElem? (i := 239) (by decide +kernel), List.mem_of_getElem? (i := 240) (by decide +kernel)⟩
theorem lw_p3 : lw_okq (⟨"OneTuneNine$Text", "isDigit", "(I)Z"⟩, 1) := ⟨⟨by decide +kernel, by decide +kernel⟩, List.mem_of_getElem? (i := 152) (by decide +kernel), List.mem_of_getElem? (i := 248) (by decide +kernel), List.mem_of_getElem? (i := 249) (by decide +kernel)⟩
theorem lw_p4 : lw_okq (⟨"OneTuneNine$Text", "fits", "(CI)Z"⟩, 1) := ⟨⟨by decide +kernel, by decide +kernel⟩, List.mem_of_getElem? (i := 152) (by decide +kernel), List.mem_of_getElem? (i := 305) (by decide +kernel), List.mem_of_getElem? (i := 306) (by decide +kernel)⟩
theorem lw_p5 : lw_okq (⟨"OneTuneNine$Text", "kind", "(I)I"⟩, 1) := ⟨⟨by decide +kernel, by decide +kernel⟩, List.mem_of_getElem? (i := 152) (by decide +kernel), List.mem_of_getElem? (i := 309) (by decide +kernel), List.mem_of_getElem? (i := 310) (by decide +kernel)⟩
theorem lw_p6 : lw_okq (⟨"OneTuneNine$Text", "tell", "(LOneTuneNine$Canon;II)Z"⟩, 1) := ⟨⟨by decide +kernel, by decide +kernel⟩, List.mem_of_getElem? (i := 152) (by decide +kernel), List.mem_of_getElem? (i := 342) (by decide +kernel), List.mem_of_getElem? (i := 343) (by decide +kernel)⟩
theorem lw_p7 : lw_okq (⟨"OneTuneNine$Text", "digit", "(I)I"⟩, 1) := ⟨⟨by decide +kernel, by decide +kernel⟩, List.mem_of_getElem? (i := 152) (by decide +kernel), List.mem_of_getElem? (i := 346) (by decide +kernel), List.mem_of_getElem? (i := 347) (by decide +kernel)⟩
theorem lw_p8 : lw_okq (⟨"OneTuneNine$Text", "entry", "(I)I"⟩, 1) := ⟨⟨by decide +kernel, by decide +kernel⟩, List.mem_of_getElem? (i := 152) (by decide +kernel), List.mem_of_getElem? (i := 364) (by decide +kernel), List.mem_of_getElem? (i := 365) (by decide +kernel)⟩
theorem lw_p9 : lw_okq (⟨"OneTuneNine$Canon", "listen", "(I)V"⟩, 9) := ⟨⟨by decide +kernel, by decide +kernel⟩, List.mem_of_getElem? (i := 24) (by decide +kernel), List.mem_of_getElem? (i := 514) (by decide +kernel), List.mem_of_getElem? (i := 515) (by decide +kernel)⟩
theorem lw_p10 : lw_okq (⟨"OneTuneNine$Canon", "clash", "(II)Z"⟩, 9) := ⟨⟨by decide +kernel, by decide +kernel⟩, List.mem_of_getElem? (i := 24) (by decide +kernel), List.mem_of_getElem? (i := 520) (by decide +kernel), List.mem_of_getElem? (i := 521) (by decide +kernel)⟩
theorem lw_p11 : lw_okq (⟨"OneTuneNine$Meetings", "meet", "(II)V"⟩, 2) := ⟨⟨by decide +kernel, by decide +kernel⟩, List.mem_of_getElem? (i := 111) (by decide +kernel), List.mem_of_getElem? (i := 604) (by decide +kernel), List.mem_of_getElem? (i := 605) (by decide +kernel)⟩
theorem lw_p12 : lw_okq (⟨"OneTuneNine$Mind", "findMends", "()V"⟩, 3) := ⟨⟨by decide +kernel, by decide +kernel⟩, List.mem_of_getElem? (i := 103) (by decide +kernel), List.mem_of_getElem? (i := 637) (by decide +kernel), List.mem_of_getElem? (i := 638) (by decide +kernel)⟩
theorem lw_p13 : lw_okq (⟨"OneTuneNine$Mind", "keepMends", "(I)V"⟩, 3) := ⟨⟨by decide +kernel, by decide +kernel⟩, List.mem_of_getElem? (i := 103) (by decide +kernel), List.mem_of_getElem? (i := 652) (by decide +kernel), List.mem_of_getElem? (i := 653) (by decide +kernel)⟩
theorem lw_p14 : lw_okq (⟨"OneTuneNine$Mind", "firstSingle", "()I"⟩, 3) := ⟨⟨by decide +kernel, by decide +kernel⟩, List.mem_of_getElem? (i := 103) (by decide +kernel), List.mem_of_getElem? (i := 659) (by decide +kernel), List.mem_of_getElem? (i := 660) (by decide +kernel)⟩
theorem lw_p15 : lw_okq (⟨"OneTuneNine$Mind", "canMend", "(II)Z"⟩, 3) := ⟨⟨by decide +kernel, by decide +kernel⟩, List.mem_of_getElem? (i := 103) (by decide +kernel), List.mem_of_getElem? (i := 663) (by decide +kernel), List.mem_of_getElem? (i := 664) (by decide +kernel)⟩
def lw_privs_1 : List (MethodName × Nat) := [(⟨"OneTuneNine", "refuse", "(I)I"⟩, 8), (⟨"OneTuneNine$Text", "formAt", "(I)Ljava/lang/String;"⟩, 1), (⟨"OneTuneNine$Text", "at", "(I)I"⟩, 1), (⟨"OneTuneNine$Text", "isDigit", "(I)Z"⟩, 1), (⟨"OneTuneNine$Text", "fits", "(CI)Z"⟩, 1), (⟨"OneTuneNine$Text", "kind", "(I)I"⟩, 1), (⟨"OneTuneNine$Text", "tell", "(LOneTuneNine$Canon;II)Z"⟩, 1), (⟨"OneTuneNine$Text", "digit", "(I)I"⟩, 1), (⟨"OneTuneNine$Text", "entry", "(I)I"⟩, 1), (⟨"OneTuneNine$Canon", "listen", "(I)V"⟩, 9), (⟨"OneTuneNine$Canon", "clash", "(II)Z"⟩, 9), (⟨"OneTuneNine$Meetings", "meet", "(II)V"⟩, 2), (⟨"OneTuneNine$Mind", "findMends", "()V"⟩, 3), (⟨"OneTuneNine$Mind", "keepMends", "(I)V"⟩, 3), (⟨"OneTuneNine$Mind", "firstSingle", "()I"⟩, 3), (⟨"OneTuneNine$Mind", "canMend", "(II)Z"⟩, 3)]
theorem lw_r1 : ∀ q ∈ lw_privs_1, lw_okq q := List.forall_mem_cons.mpr ⟨lw_p0, List.forall_mem_cons.mpr ⟨lw_p1, List.forall_mem_cons.mpr ⟨lw_p2, List.forall_mem_cons.mpr ⟨lw_p3, List.forall_mem_cons.mpr ⟨lw_p4, List.forall_mem_cons.mpr ⟨lw_p5, List.forall_mem_cons.mpr ⟨lw_p6, List.forall_mem_cons.mpr ⟨lw_p7, List.forall_mem_cons.mpr ⟨lw_p8, List.forall_mem_cons.mpr ⟨lw_p9, List.forall_mem_cons.mpr ⟨lw_p10, List.forall_mem_cons.mpr ⟨lw_p11, List.forall_mem_cons.mpr ⟨lw_p12, List.forall_mem_cons.mpr ⟨lw_p13, List.forall_mem_cons.mpr ⟨lw_p14, List.forall_mem_cons.mpr ⟨lw_p15, fun _ h => absurd h List.not_mem_nil⟩⟩⟩⟩⟩⟩⟩⟩⟩⟩⟩⟩⟩⟩⟩⟩
theorem lw_p16 : lw_okq (⟨"OneTuneNine$Mind", "mendingPitch", "(I)I"⟩, 3) := ⟨⟨by decide +kernel, by decide +kernel⟩, List.mem_of_getElem? (i := 103) (by decide +kernel), List.mem_of_getElem? (i := 667) (by decide +kernel), List.mem_of_getElem? (i := 668) (by decide +kernel)⟩
theorem lw_p17 : lw_okq (⟨"OneTuneNine$Mind", "hasPair", "()Z"⟩, 3) := ⟨⟨by decide +kernel, by decide +kernel⟩, List.mem_of_getElem? (i := 103) (by decide +kernel), List.mem_of_getElem? (i := 672) (by decide +kernel), List.mem_of_getElem? (i := 673) (by decide +kernel)⟩
theorem lw_p18 : lw_okq (⟨"OneTuneNine$Walks", "chainsOf", "(II)J"⟩, 2) := ⟨⟨by decide +kernel, by decide +kernel⟩, List.mem_of_getElem? (i := 138) (by decide +kernel), List.mem_of_getElem? (i := 716) (by decide +kernel), List.mem_of_getElem? (i := 717) (by decide +kernel)⟩
theorem lw_p19 : lw_okq (⟨"OneTuneNine$Walks", "lengthen", "(I)V"⟩, 2) := ⟨⟨by decide +kernel, by decide +kernel⟩, List.mem_of_getElem? (i := 138) (by decide +kernel), List.mem_of_getElem? (i := 720) (by decide +kernel), List.mem_of_getElem? (i := 721) (by decide +kernel)⟩
theorem lw_p20 : lw_okq (⟨"OneTuneNine$Canon", "isUnison", "()Z"⟩, 9) := ⟨⟨by decide +kernel, by decide +kernel⟩, List.mem_of_getElem? (i := 24) (by decide +kernel), List.mem_of_getElem? (i := 750) (by decide +kernel), List.mem_of_getElem? (i := 751) (by decide +kernel)⟩
theorem lw_p21 : lw_okq (⟨"OneTuneNineModel", "no", "(I)I"⟩, 17) := ⟨⟨by decide +kernel, by decide +kernel⟩, List.mem_of_getElem? (i := 798) (by decide +kernel), List.mem_of_getElem? (i := 868) (by decide +kernel), List.mem_of_getElem? (i := 869) (by decide +kernel)⟩
theorem lw_p22 : lw_okq (⟨"OneTuneNineModel", "read", "()I"⟩, 17) := ⟨⟨by decide +kernel, by decide +kernel⟩, List.mem_of_getElem? (i := 798) (by decide +kernel), List.mem_of_getElem? (i := 880) (by decide +kernel), List.mem_of_getElem? (i := 881) (by decide +kernel)⟩
theorem lw_p23 : lw_okq (⟨"OneTuneNineModel", "statement", "()V"⟩, 17) := ⟨⟨by decide +kernel, by decide +kernel⟩, List.mem_of_getElem? (i := 798) (by decide +kernel), List.mem_of_getElem? (i := 884) (by decide +kernel), List.mem_of_getElem? (i := 885) (by decide +kernel)⟩
theorem lw_p24 : lw_okq (⟨"OneTuneNineModel", "oneOf", "([C)I"⟩, 17) := ⟨⟨by decide +kernel, by decide +kernel⟩, List.mem_of_getElem? (i := 798) (by decide +kernel), List.mem_of_getElem? (i := 888) (by decide +kernel), List.mem_of_getElem? (i := 889) (by decide +kernel)⟩
theorem lw_p25 : lw_okq (⟨"OneTuneNineModel", "figures", "(I)I"⟩, 17) := ⟨⟨by decide +kernel, by decide +kernel⟩, List.mem_of_getElem? (i := 798) (by decide +kernel), List.mem_of_getElem? (i := 892) (by decide +kernel), List.mem_of_getElem? (i := 893) (by decide +kernel)⟩
theorem lw_p26 : lw_okq (⟨"OneTuneNineModel", "expect", "(C)V"⟩, 17) := ⟨⟨by decide +kernel, by decide +kernel⟩, List.mem_of_getElem? (i := 798) (by decide +kernel), List.mem_of_getElem? (i := 896) (by decide +kernel), List.mem_of_getElem? (i := 897) (by decide +kernel)⟩
theorem lw_p27 : lw_okq (⟨"OneTuneNineModel", "isAsItMustBe", "(II)Z"⟩, 17) := ⟨⟨by decide +kernel, by decide +kernel⟩, List.mem_of_getElem? (i := 798) (by decide +kernel), List.mem_of_getElem? (i := 900) (by decide +kernel), List.mem_of_getElem? (i := 901) (by decide +kernel)⟩
theorem lw_p28 : lw_okq (⟨"OneTuneNineModel", "come", "()V"⟩, 17) := ⟨⟨by decide +kernel, by decide +kernel⟩, List.mem_of_getElem? (i := 798) (by decide +kernel), List.mem_of_getElem? (i := 904) (by decide +kernel), List.mem_of_getElem? (i := 905) (by decide +kernel)⟩
theorem lw_p29 : lw_okq (⟨"OneTuneNineModel", "isNoNote", "(I)Z"⟩, 17) := ⟨⟨by decide +kernel, by decide +kernel⟩, List.mem_of_getElem? (i := 798) (by decide +kernel), List.mem_of_getElem? (i := 912) (by decide +kernel), List.mem_of_getElem? (i := 913) (by decide +kernel)⟩
theorem lw_p30 : lw_okq (⟨"OneTuneNineModel", "firstBeat", "(I)I"⟩, 17) := ⟨⟨by decide +kernel, by decide +kernel⟩, List.mem_of_getElem? (i := 798) (by decide +kernel), List.mem_of_getElem? (i := 916) (by decide +kernel), List.mem_of_getElem? (i := 917) (by decide +kernel)⟩
theorem lw_p31 : lw_okq (⟨"OneTuneNineModel", "isNoVoice", "(I)Z"⟩, 17) := ⟨⟨by decide +kernel, by decide +kernel⟩, List.mem_of_getElem? (i := 798) (by decide +kernel), List.mem_of_getElem? (i := 924) (by decide +kernel), List.mem_of_getElem? (i := 925) (by decide +kernel)⟩
def lw_privs_2 : List (MethodName × Nat) := [(⟨"OneTuneNine$Mind", "mendingPitch", "(I)I"⟩, 3), (⟨"OneTuneNine$Mind", "hasPair", "()Z"⟩, 3), (⟨"OneTuneNine$Walks", "chainsOf", "(II)J"⟩, 2), (⟨"OneTuneNine$Walks", "lengthen", "(I)V"⟩, 2), (⟨"OneTuneNine$Canon", "isUnison", "()Z"⟩, 9), (⟨"OneTuneNineModel", "no", "(I)I"⟩, 17), (⟨"OneTuneNineModel", "read", "()I"⟩, 17), (⟨"OneTuneNineModel", "statement", "()V"⟩, 17), (⟨"OneTuneNineModel", "oneOf", "([C)I"⟩, 17), (⟨"OneTuneNineModel", "figures", "(I)I"⟩, 17), (⟨"OneTuneNineModel", "expect", "(C)V"⟩, 17), (⟨"OneTuneNineModel", "isAsItMustBe", "(II)Z"⟩, 17), (⟨"OneTuneNineModel", "come", "()V"⟩, 17), (⟨"OneTuneNineModel", "isNoNote", "(I)Z"⟩, 17), (⟨"OneTuneNineModel", "firstBeat", "(I)I"⟩, 17), (⟨"OneTuneNineModel", "isNoVoice", "(I)Z"⟩, 17)]
theorem lw_r2 : ∀ q ∈ lw_privs_2, lw_okq q := List.forall_mem_cons.mpr ⟨lw_p16, List.forall_mem_cons.mpr ⟨lw_p17, List.forall_mem_cons.mpr ⟨lw_p18, List.forall_mem_cons.mpr ⟨lw_p19, List.forall_mem_cons.mpr ⟨lw_p20, List.forall_mem_cons.mpr ⟨lw_p21, List.forall_mem_cons.mpr ⟨lw_p22, List.forall_mem_cons.mpr ⟨lw_p23, List.forall_mem_cons.mpr ⟨lw_p24, List.forall_mem_cons.mpr ⟨lw_p25, List.forall_mem_cons.mpr ⟨lw_p26, List.forall_mem_cons.mpr ⟨lw_p27, List.forall_mem_cons.mpr ⟨lw_p28, List.forall_mem_cons.mpr ⟨lw_p29, List.forall_mem_cons.mpr ⟨lw_p30, List.forall_mem_cons.mpr ⟨lw_p31, fun _ h => absurd h List.not_mem_nil⟩⟩⟩⟩⟩⟩⟩⟩⟩⟩⟩⟩⟩⟩⟩⟩
theorem lw_p32 : lw_okq (⟨"OneTuneNineModel", "roundOf", "(I)I"⟩, 17) := ⟨⟨by decide +kernel, by decide +kernel⟩, List.mem_of_getElem? (i := 798) (by decide +kernel), List.mem_of_getElem? (i := 928) (by decide +kernel), List.mem_of_getElem? (i := 929) (by decide +kernel)⟩
theorem lw_p33 : lw_okq (⟨"OneTuneNineModel", "beats", "()I"⟩, 17) := ⟨⟨by decide +kernel, by decide +kernel⟩, List.mem_of_getElem? (i := 798) (by decide +kernel), List.mem_of_getElem? (i := 932) (by decide +kernel), List.mem_of_getElem? (i := 933) (by decide +kernel)⟩
theorem lw_p34 : lw_okq (⟨"OneTuneNineModel", "endOf", "(I)I"⟩, 17) := ⟨⟨by decide +kernel, by decide +kernel⟩, List.mem_of_getElem? (i := 798) (by decide +kernel), List.mem_of_getElem? (i := 936) (by decide +kernel), List.mem_of_getElem? (i := 937) (by decide +kernel)⟩
theorem lw_p35 : lw_okq (⟨"OneTuneNineModel", "become", "(IIII)I"⟩, 17) := ⟨⟨by decide +kernel, by decide +kernel⟩, List.mem_of_getElem? (i := 798) (by decide +kernel), List.mem_of_getElem? (i := 944) (by decide +kernel), List.mem_of_getElem? (i := 945) (by decide +kernel)⟩
theorem lw_p36 : lw_okq (⟨"OneTuneNineModel", "soundAt", "(II)I"⟩, 17) := ⟨⟨by decide +kernel, by decide +kernel⟩, List.mem_of_getElem? (i := 798) (by decide +kernel), List.mem_of_getElem? (i := 972) (by decide +kernel), List.mem_of_getElem? (i := 973) (by decide +kernel)⟩
theorem lw_p37 : lw_okq (⟨"OneTuneNineModel", "soundOf", "(IIII)I"⟩, 17) := ⟨⟨by decide +kernel, by decide +kernel⟩, List.mem_of_getElem? (i := 798) (by decide +kernel), List.mem_of_getElem? (i := 976) (by decide +kernel), List.mem_of_getElem? (i := 977) (by decide +kernel)⟩
theorem lw_p38 : lw_okq (⟨"OneTuneNineModel", "said", "(II)I"⟩, 17) := ⟨⟨by decide +kernel, by decide +kernel⟩, List.mem_of_getElem? (i := 798) (by decide +kernel), List.mem_of_getElem? (i := 980) (by decide +kernel), List.mem_of_getElem? (i := 981) (by decide +kernel)⟩
theorem lw_p39 : lw_okq (⟨"OneTuneNineModel", "plain", "(I)I"⟩, 17) := ⟨⟨by decide +kernel, by decide +kernel⟩, List.mem_of_getElem? (i := 798) (by decide +kernel), List.mem_of_getElem? (i := 984) (by decide +kernel), List.mem_of_getElem? (i := 985) (by decide +kernel)⟩
theorem lw_p40 : lw_okq (⟨"OneTuneNineModel", "illAt", "(II)I"⟩, 17) := ⟨⟨by decide +kernel, by decide +kernel⟩, List.mem_of_getElem? (i := 798) (by decide +kernel), List.mem_of_getElem? (i := 992) (by decide +kernel), List.mem_of_getElem? (i := 993) (by decide +kernel)⟩
theorem lw_p41 : lw_okq (⟨"OneTuneNineModel", "agree", "(II)Z"⟩, 17) := ⟨⟨by decide +kernel, by decide +kernel⟩, List.mem_of_getElem? (i := 798) (by decide +kernel), List.mem_of_getElem? (i := 996) (by decide +kernel), List.mem_of_getElem? (i := 997) (by decide +kernel)⟩
theorem lw_p42 : lw_okq (⟨"OneTuneNineModel", "end", "()I"⟩, 17) := ⟨⟨by decide +kernel, by decide +kernel⟩, List.mem_of_getElem? (i := 798) (by decide +kernel), List.mem_of_getElem? (i := 1005) (by decide +kernel), List.mem_of_getElem? (i := 1006) (by decide +kernel)⟩
theorem lw_p43 : lw_okq (⟨"OneTuneNineModel", "illAll", "(I)I"⟩, 17) := ⟨⟨by decide +kernel, by decide +kernel⟩, List.mem_of_getElem? (i := 798) (by decide +kernel), List.mem_of_getElem? (i := 1014) (by decide +kernel), List.mem_of_getElem? (i := 1015) (by decide +kernel)⟩
theorem lw_p44 : lw_okq (⟨"OneTuneNineModel", "fitsAll", "(III)Z"⟩, 17) := ⟨⟨by decide +kernel, by decide +kernel⟩, List.mem_of_getElem? (i := 798) (by decide +kernel), List.mem_of_getElem? (i := 1022) (by decide +kernel), List.mem_of_getElem? (i := 1023) (by decide +kernel)⟩
theorem lw_p45 : lw_okq (⟨"OneTuneNineModel", "isWell", "()Z"⟩, 17) := ⟨⟨by decide +kernel, by decide +kernel⟩, List.mem_of_getElem? (i := 798) (by decide +kernel), List.mem_of_getElem? (i := 1030) (by decide +kernel), List.mem_of_getElem? (i := 1031) (by decide +kernel)⟩
theorem lw_p46 : lw_okq (⟨"OneTuneNineModel", "oneChange", "()I"⟩, 17) := ⟨⟨by decide +kernel, by decide +kernel⟩, List.mem_of_getElem? (i := 798) (by decide +kernel), List.mem_of_getElem? (i := 1042) (by decide +kernel), List.mem_of_getElem? (i := 1043) (by decide +kernel)⟩
theorem lw_p47 : lw_okq (⟨"OneTuneNineModel", "isTwoChanges", "()Z"⟩, 17) := ⟨⟨by decide +kernel, by decide +kernel⟩, List.mem_of_getElem? (i := 798) (by decide +kernel), List.mem_of_getElem? (i := 1046) (by decide +kernel), List.mem_of_getElem? (i := 1047) (by decide +kernel)⟩
def lw_privs_3 : List (MethodName × Nat) := [(⟨"OneTuneNineModel", "roundOf", "(I)I"⟩, 17), (⟨"OneTuneNineModel", "beats", "()I"⟩, 17), (⟨"OneTuneNineModel", "endOf", "(I)I"⟩, 17), (⟨"OneTuneNineModel", "become", "(IIII)I"⟩, 17), (⟨"OneTuneNineModel", "soundAt", "(II)I"⟩, 17), (⟨"OneTuneNineModel", "soundOf", "(IIII)I"⟩, 17), (⟨"OneTuneNineModel", "said", "(II)I"⟩, 17), (⟨"OneTuneNineModel", "plain", "(I)I"⟩, 17), (⟨"OneTuneNineModel", "illAt", "(II)I"⟩, 17), (⟨"OneTuneNineModel", "agree", "(II)Z"⟩, 17), (⟨"OneTuneNineModel", "end", "()I"⟩, 17), (⟨"OneTuneNineModel", "illAll", "(I)I"⟩, 17), (⟨"OneTuneNineModel", "fitsAll", "(III)Z"⟩, 17), (⟨"OneTuneNineModel", "isWell", "()Z"⟩, 17), (⟨"OneTuneNineModel", "oneChange", "()I"⟩, 17), (⟨"OneTuneNineModel", "isTwoChanges", "()Z"⟩, 17)]
theorem lw_r3 : ∀ q ∈ lw_privs_3, lw_okq q := List.forall_mem_cons.mpr ⟨lw_p32, List.forall_mem_cons.mpr ⟨lw_p33, List.forall_mem_cons.mpr ⟨lw_p34, List.forall_mem_cons.mpr ⟨lw_p35, List.forall_mem_cons.mpr ⟨lw_p36, List.forall_mem_cons.mpr ⟨lw_p37, List.forall_mem_cons.mpr ⟨lw_p38, List.forall_mem_cons.mpr ⟨lw_p39, List.forall_mem_cons.mpr ⟨lw_p40, List.forall_mem_cons.mpr ⟨lw_p41, List.forall_mem_cons.mpr ⟨lw_p42, List.forall_mem_cons.mpr ⟨lw_p43, List.forall_mem_cons.mpr ⟨lw_p44, List.forall_mem_cons.mpr ⟨lw_p45, List.forall_mem_cons.mpr ⟨lw_p46, List.forall_mem_cons.mpr ⟨lw_p47, fun _ h => absurd h List.not_mem_nil⟩⟩⟩⟩⟩⟩⟩⟩⟩⟩⟩⟩⟩⟩⟩⟩
theorem lw_p48 : lw_okq (⟨"OneTuneNineModel", "chains", "(I)J"⟩, 17) := ⟨⟨by decide +kernel, by decide +kernel⟩, List.mem_of_getElem? (i := 798) (by decide +kernel), List.mem_of_getElem? (i := 1064) (by decide +kernel), List.mem_of_getElem? (i := 1065) (by decide +kernel)⟩
theorem lw_p49 : lw_okq (⟨"OneTuneNineModel", "unlike", "(III)I"⟩, 17) := ⟨⟨by decide +kernel, by decide +kernel⟩, List.mem_of_getElem? (i := 798) (by decide +kernel), List.mem_of_getElem? (i := 1088) (by decide +kernel), List.mem_of_getElem? (i := 1089) (by decide +kernel)⟩
def lw_privs_4 : List (MethodName × Nat) := [(⟨"OneTuneNineModel", "chains", "(I)J"⟩, 17), (⟨"OneTuneNineModel", "unlike", "(III)I"⟩, 17)]
theorem lw_r4 : ∀ q ∈ lw_privs_4, lw_okq q := List.forall_mem_cons.mpr ⟨lw_p48, List.forall_mem_cons.mpr ⟨lw_p49, fun _ h => absurd h List.not_mem_nil⟩⟩
def lw_privs : List (MethodName × Nat) := lw_privs_1 ++ (lw_privs_2 ++ (lw_privs_3 ++ (lw_privs_4)))
def lw_tbl : List Cond := k2_sels lw_privs ++ tables_1
theorem lw_privs_ok : ∀ q ∈ lw_privs, lw_okq q := by
  show ∀ q ∈ lw_privs_1 ++ (lw_privs_2 ++ (lw_privs_3 ++ (lw_privs_4))), lw_okq q
  exact List.forall_mem_append.mpr ⟨lw_r1, List.forall_mem_append.mpr ⟨lw_r2, List.forall_mem_append.mpr ⟨lw_r3, lw_r4⟩⟩⟩
end
section
/-! abstract values, cells, heaps: numbers are mathematical integers, references are places of the law's own heap -/
abbrev AV : Type := Int ⊕ (Int ⊕ Option Nat)
abbrev aI (n : Int) : AV := Sum.inl n
abbrev aJ (n : Int) : AV := Sum.inr (Sum.inl n)
abbrev aR (a : Nat) : AV := Sum.inr (Sum.inr (some a))
abbrev aN : AV := Sum.inr (Sum.inr none)
abbrev AC : Type := (Nat × List AV) ⊕ (Nat × List Int)
abbrev aO (k : Nat) (fs : List AV) : AC := Sum.inl (k, fs)
abbrev aA (t : Nat) (xs : List Int) : AC := Sum.inr (t, xs)
abbrev AH : Type := Nat × (Nat → Option AC)
abbrev Gx : Type := Nat × Heap × va_G × (Nat → ClassId) × (Nat → Nat) × Nat × (Nat → Int32)
def gz (G : Gx) : Nat := G.1
def gH (G : Gx) : Heap := G.2.1
def gD (G : Gx) : va_G := G.2.2.1
def gA (G : Gx) : Nat → ClassId := G.2.2.2.1
def gS (G : Gx) : Nat → Nat := G.2.2.2.2.1
def gL (G : Gx) : Nat := G.2.2.2.2.2.1
def gX (G : Gx) : Nat → Int32 := G.2.2.2.2.2.2
/-- the address of a place: below 100 what stood before the law began, from 100 on the law's own cells in their order -/
def Ad (G : Gx) (a : Nat) : Nat := if a < 100 then gS G a else gz G + (a - 100)
theorem Ad_own {G : Gx} {a : Nat} (h : 100 ≤ a) : Ad G a = gz G + (a - 100) := by unfold Ad; rw [if_neg (by omega)]
def cv (G : Gx) : AV → Value
  | .inl n => .int (Int32.ofInt n)
  | .inr (.inl n) => .long (Int64.ofInt n)
  | .inr (.inr none) => .null
  | .inr (.inr (some a)) => .ref (Ad G a)
def cS (G : Gx) : List AV → List Value
  | [] => []
  | v :: t => cv G v :: cS G t
theorem cS_len (G : Gx) : ∀ l : List AV, (cS G l).length = l.length
  | [] => rfl
  | _ :: t => congrArg (· + 1) (cS_len G t)
theorem cS_get (G : Gx) : ∀ (l : List AV) (j : Nat), (cS G l)[j]? = (l[j]?).map (cv G)
  | [], j => by simp [cS]
  | v :: t, 0 => by simp [cS]
  | v :: t, j + 1 => by simp [cS, cS_get G t j]
theorem cS_set (G : Gx) : ∀ (l : List AV) (j : Nat) (v : AV), cS G (l.set j v) = (cS G l).set j (cv G v)
  | [], _, _ => rfl
  | _ :: _, 0, _ => rfl
  | a :: t, j + 1, v => by show cv G a :: cS G (t.set j v) = cv G a :: (cS G t).set j (cv G v); rw [cS_set G t j v]
theorem cS_app (G : Gx) : ∀ (l r : List AV), cS G (l ++ r) = cS G l ++ cS G r
  | [], _ => rfl
  | a :: t, r => by show cv G a :: cS G (t ++ r) = cv G a :: (cS G t ++ cS G r); rw [cS_app G t r]
theorem cS_rev (G : Gx) : ∀ (l : List AV), cS G l.reverse = (cS G l).reverse
  | [] => rfl
  | a :: t => by rw [List.reverse_cons, cS_app, cS_rev G t]; show _ = (cv G a :: cS G t).reverse; rw [List.reverse_cons]; rfl
theorem cS_map (G : Gx) : ∀ (l : List AV), cS G l = l.map (cv G)
  | [] => rfl
  | a :: t => by show cv G a :: cS G t = cv G a :: t.map (cv G); rw [cS_map G t]
/-- the room of a value on the stack -/
def cat1 : AV → Nat
  | .inr (.inl _) => 2
  | _ => 1
theorem cat_cv (G : Gx) : ∀ v : AV, (cv G v).category = cat1 v
  | .inl _ => rfl
  | .inr (.inl _) => rfl
  | .inr (.inr none) => rfl
  | .inr (.inr (some _)) => rfl
def catS : List AV → Nat
  | [] => 0
  | v :: t => cat1 v + catS t
theorem catS_cS (G : Gx) : ∀ l : List AV, ((cS G l).map fun v => v.category).sum = catS l
  | [] => rfl
  | v :: t => by show ((cv G v).category :: (cS G t).map fun v => v.category).sum = _; rw [List.sum_cons, cat_cv, catS_cS G t]; rfl
/-! numbers -/
abbrev InR (n : Int) : Prop := -2147483648 ≤ n ∧ n ≤ 2147483647
theorem oi_toInt {n : Int} (h : InR n) : (Int32.ofInt n).toInt = n := Int32.toInt_ofInt_of_le (by have := h.1; omega) (by have := h.2; omega)
theorem oi_eq {x y : Int} (hx : InR x) (hy : InR y) : Int32.ofInt x = Int32.ofInt y ↔ x = y := by
  constructor
  · intro h
    have := congrArg Int32.toInt h
    rwa [oi_toInt hx, oi_toInt hy] at this
  · rintro rfl; rfl
theorem oi_lt {x y : Int} (hx : InR x) (hy : InR y) : Int32.ofInt x < Int32.ofInt y ↔ x < y := by rw [Int32.lt_iff_toInt_lt, oi_toInt hx, oi_toInt hy]
theorem oi_le {x y : Int} (hx : InR x) (hy : InR y) : Int32.ofInt x ≤ Int32.ofInt y ↔ x ≤ y := by rw [Int32.le_iff_toInt_le, oi_toInt hx, oi_toInt hy]
theorem oi_0 : Int32.ofInt 0 = 0 := rfl
theorem InR0 : InR 0 := ⟨by decide, by decide⟩
theorem oi_nat {n : Int} (h0 : 0 ≤ n) (h : n ≤ 2147483647) : (Int32.ofInt n).toNatClampNeg = n.toNat := by
  rw [Int32.toNatClampNeg_ofInt_of_le (by omega) (by omega)]
theorem oi_self (x : Int32) : Int32.ofInt x.toInt = x := Int32.ofInt_toInt x
theorem InR_toInt (x : Int32) : InR x.toInt := ⟨by have := x.le_toInt; omega, by have := x.toInt_lt; omega⟩
theorem oi_div {x y : Int} (hx : InR x) (hy0 : 0 < y) (hy : y ≤ 2147483647) : Int32.ofInt x / Int32.ofInt y = Int32.ofInt (x.tdiv y) := by
  have h2 : -2147483648 ≤ x.tdiv y ∧ x.tdiv y ≤ 2147483647 := by
    have h1 := hx.1
    have h2 := hx.2
    rcases Int.le_total 0 x with h | h
    · have e1 := Int.tdiv_nonneg h (Int.le_of_lt hy0)
      have e2 : x.tdiv y ≤ x := by rw [Int.tdiv_eq_ediv_of_nonneg h]; exact Int.ediv_le_self y h
      omega
    · have e := Int.neg_tdiv (-x) y
      rw [Int.neg_neg] at e
      have e1 := Int.tdiv_nonneg (show 0 ≤ -x by omega) (Int.le_of_lt hy0)
      have e2 : (-x).tdiv y ≤ -x := by rw [Int.tdiv_eq_ediv_of_nonneg (by omega)]; exact Int.ediv_le_self y (by omega)
      omega
  apply Int32.toInt_inj.mp
  rw [Int32.toInt_div, oi_toInt hx, oi_toInt (show InR y from ⟨by omega, hy⟩), oi_toInt h2]
  rw [Int.bmod_eq_of_le (by omega) (by omega)]
theorem oi_rem {x y : Int} (hx : InR x) (hy0 : 0 < y) (hy : y ≤ 2147483647) : Int32.ofInt x - Int32.ofInt x / Int32.ofInt y * Int32.ofInt y = Int32.ofInt (x.tmod y) := by
  rw [oi_div hx hy0 hy, ← Int32.ofInt_mul, ← Int32.ofInt_sub]
  congr 1
  have := Int.mul_tdiv_add_tmod x y
  have e : x.tdiv y * y = y * x.tdiv y := Int.mul_comm _ _
  omega
end
section
/-! names of classes, their fields in the order of the slots; words; methods; links (written by wip/whole/tools/gen_names.py) -/
def R_Canon : String := "OneTuneNine$Canon"
def T_Canon : u_T := fun k => match k with
  | 0 => ("OneTuneNine$Canon", "tune", "LOneTuneNine$Tune;", true)
  | 1 => ("OneTuneNine$Canon", "kinds", "LOneTuneNine$Row;", true)
  | 2 => ("OneTuneNine$Canon", "starts", "LOneTuneNine$Row;", true)
  | 3 => ("OneTuneNine$Canon", "highs", "LOneTuneNine$Row;", true)
  | 4 => ("OneTuneNine$Canon", "singers", "LOneTuneNine$Row;", true)
  | 5 => ("OneTuneNine$Canon", "sounds", "LOneTuneNine$Row;", true)
  | 6 => ("OneTuneNine$Canon", "rounds", "I", false)
  | 7 => ("OneTuneNine$Canon", "step", "I", false)
  | _ => ("OneTuneNine$Canon", "law", "I", false)
def ty_Canon : Nat → FieldType := fun k => match k with
  | 0 => (.object "OneTuneNine$Tune")
  | 1 => (.object "OneTuneNine$Row")
  | 2 => (.object "OneTuneNine$Row")
  | 3 => (.object "OneTuneNine$Row")
  | 4 => (.object "OneTuneNine$Row")
  | 5 => (.object "OneTuneNine$Row")
  | 6 => .int
  | 7 => .int
  | _ => .int
def R_Meetings : String := "OneTuneNine$Meetings"
def T_Meetings : u_T := fun k => match k with
  | 0 => ("OneTuneNine$Meetings", "ways", "LOneTuneNine$Row;", true)
  | _ => ("OneTuneNine$Meetings", "times", "LOneTuneNine$Row;", true)
def ty_Meetings : Nat → FieldType := fun k => match k with
  | 0 => (.object "OneTuneNine$Row")
  | _ => (.object "OneTuneNine$Row")
def R_Mind : String := "OneTuneNine$Mind"
def T_Mind : u_T := fun k => match k with
  | 0 => ("OneTuneNine$Mind", "trial", "LOneTuneNine$Canon;", true)
  | 1 => ("OneTuneNine$Mind", "meetings", "LOneTuneNine$Meetings;", true)
  | _ => ("OneTuneNine$Mind", "mends", "LOneTuneNine$Row;", true)
def ty_Mind : Nat → FieldType := fun k => match k with
  | 0 => (.object "OneTuneNine$Canon")
  | 1 => (.object "OneTuneNine$Meetings")
  | _ => (.object "OneTuneNine$Row")
def R_Row : String := "OneTuneNine$Row"
def T_Row : u_T := fun k => match k with
  | 0 => ("OneTuneNine$Row", "cells", "[I", true)
  | _ => ("OneTuneNine$Row", "used", "I", false)
def ty_Row : Nat → FieldType := fun k => match k with
  | 0 => (.array .int)
  | _ => .int
def R_Text : String := "OneTuneNine$Text"
def T_Text : u_T := fun k => match k with
  | _ => ("OneTuneNine$Text", "letters", "LOneTuneNine$Row;", true)
def ty_Text : Nat → FieldType := fun k => match k with
  | _ => (.object "OneTuneNine$Row")
def R_Tune : String := "OneTuneNine$Tune"
def T_Tune : u_T := fun k => match k with
  | 0 => ("OneTuneNine$Tune", "pitches", "LOneTuneNine$Row;", true)
  | 1 => ("OneTuneNine$Tune", "lengths", "LOneTuneNine$Row;", true)
  | 2 => ("OneTuneNine$Tune", "noteOfBeat", "LOneTuneNine$Row;", true)
  | _ => ("OneTuneNine$Tune", "beats", "I", false)
def ty_Tune : Nat → FieldType := fun k => match k with
  | 0 => (.object "OneTuneNine$Row")
  | 1 => (.object "OneTuneNine$Row")
  | 2 => (.object "OneTuneNine$Row")
  | _ => .int
def R_Walks : String := "OneTuneNine$Walks"
def T_Walks : u_T := fun k => match k with
  | 0 => ("OneTuneNine$Walks", "ending", "[J", true)
  | _ => ("OneTuneNine$Walks", "longer", "[J", true)
def ty_Walks : Nat → FieldType := fun k => match k with
  | 0 => (.array .long)
  | _ => (.array .long)
def R_Main : String := "OneTuneNine"
def T_Main : u_T := fun k => match k with
  | 0 => ("OneTuneNine", "told", "LOneTuneNine$Canon;", true)
  | 1 => ("OneTuneNine", "kept", "LOneTuneNine$Canon;", true)
  | 2 => ("OneTuneNine", "isKept", "Z", false)
  | 3 => ("OneTuneNine", "mind", "LOneTuneNine$Mind;", true)
  | 4 => ("OneTuneNine", "walks", "LOneTuneNine$Walks;", true)
  | 5 => ("OneTuneNine", "text", "LOneTuneNine$Text;", true)
  | 6 => ("OneTuneNine", "heard", "LOneTuneNine$Row;", true)
  | _ => ("OneTuneNine", "refusals", "LOneTuneNine$Row;", true)
def ty_Main : Nat → FieldType := fun k => match k with
  | 0 => (.object "OneTuneNine$Canon")
  | 1 => (.object "OneTuneNine$Canon")
  | 2 => .boolean
  | 3 => (.object "OneTuneNine$Mind")
  | 4 => (.object "OneTuneNine$Walks")
  | 5 => (.object "OneTuneNine$Text")
  | 6 => (.object "OneTuneNine$Row")
  | _ => (.object "OneTuneNine$Row")
def R_Model : String := "OneTuneNineModel"
def T_Model : u_T := fun k => match k with
  | 0 => ("OneTuneNineModel", "refused", "[I", true)
  | 1 => ("OneTuneNineModel", "now", "[I", true)
  | 2 => ("OneTuneNineModel", "then", "[I", true)
  | 3 => ("OneTuneNineModel", "before", "[I", true)
  | 4 => ("OneTuneNineModel", "kept", "Z", false)
  | 5 => ("OneTuneNineModel", "tape", "[I", true)
  | 6 => ("OneTuneNineModel", "taped", "I", false)
  | 7 => ("OneTuneNineModel", "at", "I", false)
  | 8 => ("OneTuneNineModel", "well", "Z", false)
  | 9 => ("OneTuneNineModel", "begins", "[C", true)
  | 10 => ("OneTuneNineModel", "kinds", "[C", true)
  | 11 => ("OneTuneNineModel", "sort", "I", false)
  | 12 => ("OneTuneNineModel", "field", "[I", true)
  | 13 => ("OneTuneNineModel", "sounds", "[I", true)
  | 14 => ("OneTuneNineModel", "firstPair", "I", false)
  | 15 => ("OneTuneNineModel", "row", "[I", true)
  | _ => ("OneTuneNineModel", "rows", "I", false)
def ty_Model : Nat → FieldType := fun k => match k with
  | 0 => (.array .int)
  | 1 => (.array .int)
  | 2 => (.array .int)
  | 3 => (.array .int)
  | 4 => .boolean
  | 5 => (.array .int)
  | 6 => .int
  | 7 => .int
  | 8 => .boolean
  | 9 => (.array .char)
  | 10 => (.array .char)
  | 11 => .int
  | 12 => (.array .int)
  | 13 => (.array .int)
  | 14 => .int
  | 15 => (.array .int)
  | _ => .int
abbrev cl : List vw_C := [(R_Canon, T_Canon, 9), (R_Meetings, T_Meetings, 2), (R_Mind, T_Mind, 3), (R_Row, T_Row, 2), (R_Text, T_Text, 1), (R_Tune, T_Tune, 4), (R_Walks, T_Walks, 2), (R_Main, T_Main, 8), (R_Model, T_Model, 17)]
def tyA (k j : Nat) : FieldType := match k with
  | 0 => ty_Canon j
  | 1 => ty_Meetings j
  | 2 => ty_Mind j
  | 3 => ty_Row j
  | 4 => ty_Text j
  | 5 => ty_Tune j
  | 6 => ty_Walks j
  | 7 => ty_Main j
  | _ => ty_Model j
def wsAll : List Cond := lw_tbl.filter goodWord
def nestAll : List Cond := [(Jvm.Cond.methodLinkNest "OneTuneNine" (9 : Nat) ({ cls := "OneTuneNine$Canon", name := "<init>", desc := "()V" } : Jvm.MethodName) "OneTuneNine"), (Jvm.Cond.methodLinkNest "OneTuneNine$Canon" (11 : Nat) ({ cls := "OneTuneNine$Tune", name := "<init>", desc := "()V" } : Jvm.MethodName) "OneTuneNine"), (Jvm.Cond.fieldLinkNest "OneTuneNine$Meetings" (82 : Nat) "OneTuneNine$Tune" "pitches" "LOneTuneNine$Row;" "OneTuneNine"), (Jvm.Cond.fieldLinkNest "OneTuneNine$Canon" (87 : Nat) "OneTuneNine$Tune" "beats" "I" "OneTuneNine"), (Jvm.Cond.fieldLinkNest "OneTuneNine" (224 : Nat) "OneTuneNine$Tune" "beats" "I" "OneTuneNine"), (Jvm.Cond.fieldLinkNest "OneTuneNine" (91 : Nat) "OneTuneNine$Canon" "tune" "LOneTuneNine$Tune;" "OneTuneNine"), (Jvm.Cond.fieldLinkNest "OneTuneNine$Mind" (58 : Nat) "OneTuneNine$Canon" "tune" "LOneTuneNine$Tune;" "OneTuneNine"), (Jvm.Cond.fieldLinkNest "OneTuneNine$Meetings" (78 : Nat) "OneTuneNine$Canon" "tune" "LOneTuneNine$Tune;" "OneTuneNine"), (Jvm.Cond.fieldLinkNest "OneTuneNine" (135 : Nat) "OneTuneNine$Canon" "rounds" "I" "OneTuneNine"), (Jvm.Cond.fieldLinkNest "OneTuneNine" (139 : Nat) "OneTuneNine$Canon" "step" "I" "OneTuneNine"), (Jvm.Cond.fieldLinkNest "OneTuneNine$Meetings" (87 : Nat) "OneTuneNine$Canon" "law" "I" "OneTuneNine"), (Jvm.Cond.fieldLinkNest "OneTuneNine" (142 : Nat) "OneTuneNine$Canon" "law" "I" "OneTuneNine"), (Jvm.Cond.methodLinkNest "OneTuneNine" (25 : Nat) ({ cls := "OneTuneNine$Mind", name := "<init>", desc := "()V" } : Jvm.MethodName) "OneTuneNine"), (Jvm.Cond.methodLinkNest "OneTuneNine$Mind" (11 : Nat) ({ cls := "OneTuneNine$Canon", name := "<init>", desc := "()V" } : Jvm.MethodName) "OneTuneNine"), (Jvm.Cond.methodLinkNest "OneTuneNine$Mind" (20 : Nat) ({ cls := "OneTuneNine$Meetings", name := "<init>", desc := "()V" } : Jvm.MethodName) "OneTuneNine"), (Jvm.Cond.methodLinkNest "OneTuneNine" (32 : Nat) ({ cls := "OneTuneNine$Walks", name := "<init>", desc := "()V" } : Jvm.MethodName) "OneTuneNine"), (Jvm.Cond.methodLinkNest "OneTuneNine" (39 : Nat) ({ cls := "OneTuneNine$Text", name := "<init>", desc := "()V" } : Jvm.MethodName) "OneTuneNine"), (Jvm.Cond.methodLinkNest "OneTuneNine$Canon" (123 : Nat) ({ cls := "OneTuneNine", name := "soundsWell", desc := "(II)Z" } : Jvm.MethodName) "OneTuneNine"), (Jvm.Cond.methodLinkNest "OneTuneNine$Meetings" (91 : Nat) ({ cls := "OneTuneNine", name := "soundsWell", desc := "(II)Z" } : Jvm.MethodName) "OneTuneNine"), (Jvm.Cond.methodLinkNest "OneTuneNine$Walks" (26 : Nat) ({ cls := "OneTuneNine", name := "soundsWell", desc := "(II)Z" } : Jvm.MethodName) "OneTuneNine")]
theorem nest_tbl : ∀ w ∈ nestAll, w ∈ tables_1 := by decide +kernel
theorem nest_on : ∀ w ∈ nestAll, w.onTables = true := by decide +kernel
theorem wA {w : Cond} (i : Nat) (h : tables_1[i]? = some w) (g : goodWord w = true) : w ∈ wsAll := List.mem_filter.mpr ⟨List.mem_append_right _ (List.mem_of_getElem? h), g⟩
theorem wS {w : Cond} (i : Nat) (h : (k2_sels lw_privs)[i]? = some w) (g : goodWord w = true) : w ∈ wsAll := List.mem_filter.mpr ⟨List.mem_append_left _ (List.mem_of_getElem? h), g⟩
theorem in_Canon : ∀ w ∈ u_ws R_Canon T_Canon 9, w ∈ wsAll := by decide +kernel
theorem nm_Canon : ∀ a, a < 9 → ∀ b, b < 9 → a ≠ b → (T_Canon a).2.1 ≠ (T_Canon b).2.1 := by decide +kernel
theorem ty_Canon_ok : ∀ k, k < 9 → parseFieldDescriptor (T_Canon k).2.2.1 = some (ty_Canon k) := by decide +kernel
theorem in_Meetings : ∀ w ∈ u_ws R_Meetings T_Meetings 2, w ∈ wsAll := by decide +kernel
theorem nm_Meetings : ∀ a, a < 2 → ∀ b, b < 2 → a ≠ b → (T_Meetings a).2.1 ≠ (T_Meetings b).2.1 := by decide +kernel
theorem ty_Meetings_ok : ∀ k, k < 2 → parseFieldDescriptor (T_Meetings k).2.2.1 = some (ty_Meetings k) := by decide +kernel
theorem in_Mind : ∀ w ∈ u_ws R_Mind T_Mind 3, w ∈ wsAll := by decide +kernel
theorem nm_Mind : ∀ a, a < 3 → ∀ b, b < 3 → a ≠ b → (T_Mind a).2.1 ≠ (T_Mind b).2.1 := by decide +kernel
theorem ty_Mind_ok : ∀ k, k < 3 → parseFieldDescriptor (T_Mind k).2.2.1 = some (ty_Mind k) := by decide +kernel
theorem in_Row : ∀ w ∈ u_ws R_Row T_Row 2, w ∈ wsAll := by decide +kernel
theorem nm_Row : ∀ a, a < 2 → ∀ b, b < 2 → a ≠ b → (T_Row a).2.1 ≠ (T_Row b).2.1 := by decide +kernel
theorem ty_Row_ok : ∀ k, k < 2 → parseFieldDescriptor (T_Row k).2.2.1 = some (ty_Row k) := by decide +kernel
theorem in_Text : ∀ w ∈ u_ws R_Text T_Text 1, w ∈ wsAll := by decide +kernel
theorem nm_Text : ∀ a, a < 1 → ∀ b, b < 1 → a ≠ b → (T_Text a).2.1 ≠ (T_Text b).2.1 := by decide +kernel
theorem ty_Text_ok : ∀ k, k < 1 → parseFieldDescriptor (T_Text k).2.2.1 = some (ty_Text k) := by decide +kernel
theorem in_Tune : ∀ w ∈ u_ws R_Tune T_Tune 4, w ∈ wsAll := by decide +kernel
theorem nm_Tune : ∀ a, a < 4 → ∀ b, b < 4 → a ≠ b → (T_Tune a).2.1 ≠ (T_Tune b).2.1 := by decide +kernel
theorem ty_Tune_ok : ∀ k, k < 4 → parseFieldDescriptor (T_Tune k).2.2.1 = some (ty_Tune k) := by decide +kernel
theorem in_Walks : ∀ w ∈ u_ws R_Walks T_Walks 2, w ∈ wsAll := by decide +kernel
theorem nm_Walks : ∀ a, a < 2 → ∀ b, b < 2 → a ≠ b → (T_Walks a).2.1 ≠ (T_Walks b).2.1 := by decide +kernel
theorem ty_Walks_ok : ∀ k, k < 2 → parseFieldDescriptor (T_Walks k).2.2.1 = some (ty_Walks k) := by decide +kernel
theorem in_Main : ∀ w ∈ u_ws R_Main T_Main 8, w ∈ wsAll := by decide +kernel
theorem nm_Main : ∀ a, a < 8 → ∀ b, b < 8 → a ≠ b → (T_Main a).2.1 ≠ (T_Main b).2.1 := by decide +kernel
theorem ty_Main_ok : ∀ k, k < 8 → parseFieldDescriptor (T_Main k).2.2.1 = some (ty_Main k) := by decide +kernel
theorem in_Model : ∀ w ∈ u_ws R_Model T_Model 17, w ∈ wsAll := by decide +kernel
theorem nm_Model : ∀ a, a < 17 → ∀ b, b < 17 → a ≠ b → (T_Model a).2.1 ≠ (T_Model b).2.1 := by decide +kernel
theorem ty_Model_ok : ∀ k, k < 17 → parseFieldDescriptor (T_Model k).2.2.1 = some (ty_Model k) := by decide +kernel
abbrev Yx : Type := MethodName × ByteArray × Nat × Option FieldType
def MOK (Y : Yx) (n : Nat) : Prop := Cond.code Y.1 Y.2.1 Y.2.2.1 Y.2.2.2 ∈ wsAll ∧ Cond.initialized Y.1.cls ∈ wsAll ∧ (Y.1.cls ≠ "java/lang/invoke/MethodHandle" ∧ Y.1.cls ≠ "java/lang/invoke/VarHandle" ∧ (parseMethodDescriptor Y.1.desc).map (fun d => d.parameters.length) = some n) ∧ plainName Y.1.cls = true ∧ Y.2.2.1 ≤ 19
def MI (Y : Yx) : Prop := Cond.instanceMethod Y.1 ∈ wsAll
def MV (Y : Yx) : Prop := Cond.selects Y.1.cls Y.1 Y.1 ∈ wsAll
def MS (Y : Yx) : Prop := Cond.static Y.1 ∈ wsAll
def LK (own : String) (idx : Nat) (Y : Yx) : Prop := Cond.methodLink own idx Y.1 ∈ wsAll ∨ ∃ host, Cond.methodLinkNest own idx Y.1 host ∈ nestAll
def FL (own : String) (idx k j : Nat) : Prop := ∃ r : vw_C, cl[k]? = some r ∧ j < r.2.2 ∧ (r.2.1 j).1 = r.1 ∧ (Cond.fieldLink own idx r.1 (r.2.1 j).2.1 (r.2.1 j).2.2.1 ∈ wsAll ∨ ∃ host, Cond.fieldLinkNest own idx r.1 (r.2.1 j).2.1 (r.2.1 j).2.2.1 host ∈ nestAll)
def Y_Main_init : Yx := (⟨R_Main, "<init>", "()V"⟩, prog_1_method_1_code, 2, none)
theorem mo_Main_init : MOK Y_Main_init 0 := ⟨wA 19 (by decide +kernel) rfl, wA 1 (by decide +kernel) rfl, by decide +kernel, by decide +kernel, by decide⟩
theorem mi_Main_init : MI Y_Main_init := wA 18 (by decide +kernel) rfl
def Y_Canon_init : Yx := (⟨R_Canon, "<init>", "()V"⟩, prog_2_method_1_code, 1, none)
theorem mo_Canon_init : MOK Y_Canon_init 0 := ⟨wA 27 (by decide +kernel) rfl, wA 2 (by decide +kernel) rfl, by decide +kernel, by decide +kernel, by decide⟩
theorem mi_Canon_init : MI Y_Canon_init := wA 26 (by decide +kernel) rfl
def Y_Tune_init : Yx := (⟨R_Tune, "<init>", "()V"⟩, prog_7_method_1_code, 1, none)
theorem mo_Tune_init : MOK Y_Tune_init 0 := ⟨wA 33 (by decide +kernel) rfl, wA 3 (by decide +kernel) rfl, by decide +kernel, by decide +kernel, by decide⟩
theorem mi_Tune_init : MI Y_Tune_init := wA 32 (by decide +kernel) rfl
def Y_Row_init : Yx := (⟨R_Row, "<init>", "(I)V"⟩, prog_5_method_1_code, 2, none)
theorem mo_Row_init : MOK Y_Row_init 1 := ⟨wA 39 (by decide +kernel) rfl, wA 4 (by decide +kernel) rfl, by decide +kernel, by decide +kernel, by decide⟩
theorem mi_Row_init : MI Y_Row_init := wA 38 (by decide +kernel) rfl
def Y_Mind_init : Yx := (⟨R_Mind, "<init>", "()V"⟩, prog_4_method_1_code, 1, none)
theorem mo_Mind_init : MOK Y_Mind_init 0 := ⟨wA 106 (by decide +kernel) rfl, wA 5 (by decide +kernel) rfl, by decide +kernel, by decide +kernel, by decide⟩
theorem mi_Mind_init : MI Y_Mind_init := wA 105 (by decide +kernel) rfl
def Y_Meetings_init : Yx := (⟨R_Meetings, "<init>", "()V"⟩, prog_3_method_1_code, 1, none)
theorem mo_Meetings_init : MOK Y_Meetings_init 0 := ⟨wA 114 (by decide +kernel) rfl, wA 6 (by decide +kernel) rfl, by decide +kernel, by decide +kernel, by decide⟩
theorem mi_Meetings_init : MI Y_Meetings_init := wA 113 (by decide +kernel) rfl
def Y_Walks_init : Yx := (⟨R_Walks, "<init>", "()V"⟩, prog_8_method_1_code, 1, none)
theorem mo_Walks_init : MOK Y_Walks_init 0 := ⟨wA 141 (by decide +kernel) rfl, wA 7 (by decide +kernel) rfl, by decide +kernel, by decide +kernel, by decide⟩
theorem mi_Walks_init : MI Y_Walks_init := wA 140 (by decide +kernel) rfl
def Y_Text_init : Yx := (⟨R_Text, "<init>", "()V"⟩, prog_6_method_1_code, 1, none)
theorem mo_Text_init : MOK Y_Text_init 0 := ⟨wA 155 (by decide +kernel) rfl, wA 8 (by decide +kernel) rfl, by decide +kernel, by decide +kernel, by decide⟩
theorem mi_Text_init : MI Y_Text_init := wA 154 (by decide +kernel) rfl
def Y_Row_add : Yx := (⟨R_Row, "add", "(I)V"⟩, prog_5_method_6_code, 2, none)
theorem mo_Row_add : MOK Y_Row_add 1 := ⟨wA 168 (by decide +kernel) rfl, wA 4 (by decide +kernel) rfl, by decide +kernel, by decide +kernel, by decide⟩
theorem mi_Row_add : MI Y_Row_add := wA 166 (by decide +kernel) rfl
theorem mv_Row_add : MV Y_Row_add := wA 167 (by decide +kernel) rfl
def Y_Main_letter : Yx := (⟨R_Main, "letter", "(I)I"⟩, prog_1_method_2_code, 3, (some Jvm.ClassFile.FieldType.int))
theorem mo_Main_letter : MOK Y_Main_letter 1 := ⟨wA 197 (by decide +kernel) rfl, wA 1 (by decide +kernel) rfl, by decide +kernel, by decide +kernel, by decide⟩
theorem mi_Main_letter : MI Y_Main_letter := wA 195 (by decide +kernel) rfl
theorem mv_Main_letter : MV Y_Main_letter := wA 196 (by decide +kernel) rfl
def Y_Main_outside : Yx := (⟨R_Main, "outside", "(III)I"⟩, prog_1_method_32_code, 3, (some Jvm.ClassFile.FieldType.int))
theorem mo_Main_outside : MOK Y_Main_outside 3 := ⟨wA 200 (by decide +kernel) rfl, wA 1 (by decide +kernel) rfl, by decide +kernel, by decide +kernel, by decide⟩
theorem ms_Main_outside : MS Y_Main_outside := wA 199 (by decide +kernel) rfl
def Y_Text_size : Yx := (⟨R_Text, "size", "()I"⟩, prog_6_method_2_code, 1, (some Jvm.ClassFile.FieldType.int))
theorem mo_Text_size : MOK Y_Text_size 0 := ⟨wA 204 (by decide +kernel) rfl, wA 8 (by decide +kernel) rfl, by decide +kernel, by decide +kernel, by decide⟩
theorem mi_Text_size : MI Y_Text_size := wA 202 (by decide +kernel) rfl
theorem mv_Text_size : MV Y_Text_size := wA 203 (by decide +kernel) rfl
def Y_Row_size : Yx := (⟨R_Row, "size", "()I"⟩, prog_5_method_2_code, 1, (some Jvm.ClassFile.FieldType.int))
theorem mo_Row_size : MOK Y_Row_size 0 := ⟨wA 208 (by decide +kernel) rfl, wA 4 (by decide +kernel) rfl, by decide +kernel, by decide +kernel, by decide⟩
theorem mi_Row_size : MI Y_Row_size := wA 206 (by decide +kernel) rfl
theorem mv_Row_size : MV Y_Row_size := wA 207 (by decide +kernel) rfl
def Y_Main_refuse : Yx := (⟨R_Main, "refuse", "(I)I"⟩, prog_1_method_34_code, 3, (some Jvm.ClassFile.FieldType.int))
theorem mo_Main_refuse : MOK Y_Main_refuse 1 := ⟨wA 212 (by decide +kernel) rfl, wA 1 (by decide +kernel) rfl, by decide +kernel, by decide +kernel, by decide⟩
theorem mi_Main_refuse : MI Y_Main_refuse := wA 211 (by decide +kernel) rfl
theorem mv_Main_refuse : MV Y_Main_refuse := wS 0 (by decide +kernel) rfl
def Y_Row_get : Yx := (⟨R_Row, "get", "(I)I"⟩, prog_5_method_4_code, 2, (some Jvm.ClassFile.FieldType.int))
theorem mo_Row_get : MOK Y_Row_get 1 := ⟨wA 216 (by decide +kernel) rfl, wA 4 (by decide +kernel) rfl, by decide +kernel, by decide +kernel, by decide⟩
theorem mi_Row_get : MI Y_Row_get := wA 214 (by decide +kernel) rfl
theorem mv_Row_get : MV Y_Row_get := wA 215 (by decide +kernel) rfl
def Y_Row_set : Yx := (⟨R_Row, "set", "(II)V"⟩, prog_5_method_5_code, 3, none)
theorem mo_Row_set : MOK Y_Row_set 2 := ⟨wA 220 (by decide +kernel) rfl, wA 4 (by decide +kernel) rfl, by decide +kernel, by decide +kernel, by decide⟩
theorem mi_Row_set : MI Y_Row_set := wA 218 (by decide +kernel) rfl
theorem mv_Row_set : MV Y_Row_set := wA 219 (by decide +kernel) rfl
def Y_Text_add : Yx := (⟨R_Text, "add", "(I)I"⟩, prog_6_method_3_code, 2, (some Jvm.ClassFile.FieldType.int))
theorem mo_Text_add : MOK Y_Text_add 1 := ⟨wA 224 (by decide +kernel) rfl, wA 8 (by decide +kernel) rfl, by decide +kernel, by decide +kernel, by decide⟩
theorem mi_Text_add : MI Y_Text_add := wA 222 (by decide +kernel) rfl
theorem mv_Text_add : MV Y_Text_add := wA 223 (by decide +kernel) rfl
def Y_Main_canon : Yx := (⟨R_Main, "canon", "()I"⟩, prog_1_method_3_code, 3, (some Jvm.ClassFile.FieldType.int))
theorem mo_Main_canon : MOK Y_Main_canon 0 := ⟨wA 229 (by decide +kernel) rfl, wA 1 (by decide +kernel) rfl, by decide +kernel, by decide +kernel, by decide⟩
theorem mi_Main_canon : MI Y_Main_canon := wA 227 (by decide +kernel) rfl
theorem mv_Main_canon : MV Y_Main_canon := wA 228 (by decide +kernel) rfl
def Y_Text_formFault : Yx := (⟨R_Text, "formFault", "()I"⟩, prog_6_method_11_code, 5, (some Jvm.ClassFile.FieldType.int))
theorem mo_Text_formFault : MOK Y_Text_formFault 0 := ⟨wA 233 (by decide +kernel) rfl, wA 8 (by decide +kernel) rfl, by decide +kernel, by decide +kernel, by decide⟩
theorem mi_Text_formFault : MI Y_Text_formFault := wA 231 (by decide +kernel) rfl
theorem mv_Text_formFault : MV Y_Text_formFault := wA 232 (by decide +kernel) rfl
def Y_Text_formAt : Yx := (⟨R_Text, "formAt", "(I)Ljava/lang/String;"⟩, prog_6_method_9_code, 2, (some (Jvm.ClassFile.FieldType.object "java/lang/String")))
theorem mo_Text_formAt : MOK Y_Text_formAt 1 := ⟨wA 237 (by decide +kernel) rfl, wA 8 (by decide +kernel) rfl, by decide +kernel, by decide +kernel, by decide⟩
theorem mi_Text_formAt : MI Y_Text_formAt := wA 236 (by decide +kernel) rfl
theorem mv_Text_formAt : MV Y_Text_formAt := wS 1 (by decide +kernel) rfl
def Y_Text_at : Yx := (⟨R_Text, "at", "(I)I"⟩, prog_6_method_5_code, 2, (some Jvm.ClassFile.FieldType.int))
theorem mo_Text_at : MOK Y_Text_at 1 := ⟨wA 241 (by decide +kernel) rfl, wA 8 (by decide +kernel) rfl, by decide +kernel, by decide +kernel, by decide⟩
theorem mi_Text_at : MI Y_Text_at := wA 240 (by decide +kernel) rfl
theorem mv_Text_at : MV Y_Text_at := wS 2 (by decide +kernel) rfl
def Y_Row_has : Yx := (⟨R_Row, "has", "(I)Z"⟩, prog_5_method_3_code, 2, (some Jvm.ClassFile.FieldType.boolean))
theorem mo_Row_has : MOK Y_Row_has 1 := ⟨wA 245 (by decide +kernel) rfl, wA 4 (by decide +kernel) rfl, by decide +kernel, by decide +kernel, by decide⟩
theorem mi_Row_has : MI Y_Row_has := wA 243 (by decide +kernel) rfl
theorem mv_Row_has : MV Y_Row_has := wA 244 (by decide +kernel) rfl
def Y_Text_isDigit : Yx := (⟨R_Text, "isDigit", "(I)Z"⟩, prog_6_method_6_code, 2, (some Jvm.ClassFile.FieldType.boolean))
theorem mo_Text_isDigit : MOK Y_Text_isDigit 1 := ⟨wA 250 (by decide +kernel) rfl, wA 8 (by decide +kernel) rfl, by decide +kernel, by decide +kernel, by decide⟩
theorem mi_Text_isDigit : MI Y_Text_isDigit := wA 249 (by decide +kernel) rfl
theorem mv_Text_isDigit : MV Y_Text_isDigit := wS 3 (by decide +kernel) rfl
def Y_String_length : Yx := (⟨"java/lang/String", "length", "()I"⟩, prog_12_method_54_code, 1, (some Jvm.ClassFile.FieldType.int))
theorem mo_String_length : MOK Y_String_length 0 := ⟨wA 259 (by decide +kernel) rfl, wA 10 (by decide +kernel) rfl, by decide +kernel, by decide +kernel, by decide⟩
theorem mi_String_length : MI Y_String_length := wA 257 (by decide +kernel) rfl
theorem mv_String_length : MV Y_String_length := wA 258 (by decide +kernel) rfl
def Y_String_coder : Yx := (⟨"java/lang/String", "coder", "()B"⟩, prog_12_method_152_code, 1, (some Jvm.ClassFile.FieldType.byte))
theorem mo_String_coder : MOK Y_String_coder 0 := ⟨wA 263 (by decide +kernel) rfl, wA 10 (by decide +kernel) rfl, by decide +kernel, by decide +kernel, by decide⟩
theorem mi_String_coder : MI Y_String_coder := wA 261 (by decide +kernel) rfl
theorem mv_String_coder : MV Y_String_coder := wA 262 (by decide +kernel) rfl
def Y_String_charAt : Yx := (⟨"java/lang/String", "charAt", "(I)C"⟩, prog_12_method_56_code, 2, (some Jvm.ClassFile.FieldType.char))
theorem mo_String_charAt : MOK Y_String_charAt 1 := ⟨wA 269 (by decide +kernel) rfl, wA 10 (by decide +kernel) rfl, by decide +kernel, by decide +kernel, by decide⟩
theorem mi_String_charAt : MI Y_String_charAt := wA 267 (by decide +kernel) rfl
theorem mv_String_charAt : MV Y_String_charAt := wA 268 (by decide +kernel) rfl
def Y_String_isLatin1 : Yx := (⟨"java/lang/String", "isLatin1", "()Z"⟩, prog_12_method_154_code, 1, (some Jvm.ClassFile.FieldType.boolean))
theorem mo_String_isLatin1 : MOK Y_String_isLatin1 0 := ⟨wA 273 (by decide +kernel) rfl, wA 10 (by decide +kernel) rfl, by decide +kernel, by decide +kernel, by decide⟩
theorem mi_String_isLatin1 : MI Y_String_isLatin1 := wA 271 (by decide +kernel) rfl
theorem mv_String_isLatin1 : MV Y_String_isLatin1 := wA 272 (by decide +kernel) rfl
def Y_Latin1_charAt : Yx := (⟨"java/lang/StringLatin1", "charAt", "([BI)C"⟩, prog_13_method_2_code, 2, (some Jvm.ClassFile.FieldType.char))
theorem mo_Latin1_charAt : MOK Y_Latin1_charAt 2 := ⟨wA 276 (by decide +kernel) rfl, wA 11 (by decide +kernel) rfl, by decide +kernel, by decide +kernel, by decide⟩
theorem ms_Latin1_charAt : MS Y_Latin1_charAt := wA 275 (by decide +kernel) rfl
def Y_String_checkIndex : Yx := (⟨"java/lang/String", "checkIndex", "(II)V"⟩, prog_12_method_155_code, 2, none)
theorem mo_String_checkIndex : MOK Y_String_checkIndex 2 := ⟨wA 279 (by decide +kernel) rfl, wA 10 (by decide +kernel) rfl, by decide +kernel, by decide +kernel, by decide⟩
theorem ms_String_checkIndex : MS Y_String_checkIndex := wA 278 (by decide +kernel) rfl
def Y_Precond_checkIndex : Yx := (⟨"jdk/internal/util/Preconditions", "checkIndex", "(IILjava/util/function/BiFunction;)I"⟩, prog_15_method_11_code, 3, (some Jvm.ClassFile.FieldType.int))
theorem mo_Precond_checkIndex : MOK Y_Precond_checkIndex 3 := ⟨wA 284 (by decide +kernel) rfl, wA 12 (by decide +kernel) rfl, by decide +kernel, by decide +kernel, by decide⟩
theorem ms_Precond_checkIndex : MS Y_Precond_checkIndex := wA 283 (by decide +kernel) rfl
def Y_UTF16_charAt : Yx := (⟨"java/lang/StringUTF16", "charAt", "([BI)C"⟩, prog_14_method_83_code, 2, (some Jvm.ClassFile.FieldType.char))
theorem mo_UTF16_charAt : MOK Y_UTF16_charAt 2 := ⟨wA 287 (by decide +kernel) rfl, wA 13 (by decide +kernel) rfl, by decide +kernel, by decide +kernel, by decide⟩
theorem ms_UTF16_charAt : MS Y_UTF16_charAt := wA 286 (by decide +kernel) rfl
def Y_UTF16_checkIndex : Yx := (⟨"java/lang/StringUTF16", "checkIndex", "(I[B)V"⟩, prog_14_method_91_code, 2, none)
theorem mo_UTF16_checkIndex : MOK Y_UTF16_checkIndex 2 := ⟨wA 290 (by decide +kernel) rfl, wA 13 (by decide +kernel) rfl, by decide +kernel, by decide +kernel, by decide⟩
theorem ms_UTF16_checkIndex : MS Y_UTF16_checkIndex := wA 289 (by decide +kernel) rfl
def Y_UTF16_length : Yx := (⟨"java/lang/StringUTF16", "length", "([B)I"⟩, prog_14_method_6_code, 1, (some Jvm.ClassFile.FieldType.int))
theorem mo_UTF16_length : MOK Y_UTF16_length 1 := ⟨wA 293 (by decide +kernel) rfl, wA 13 (by decide +kernel) rfl, by decide +kernel, by decide +kernel, by decide⟩
theorem ms_UTF16_length : MS Y_UTF16_length := wA 292 (by decide +kernel) rfl
def Y_UTF16_getChar : Yx := (⟨"java/lang/StringUTF16", "getChar", "([BI)C"⟩, prog_14_method_5_code, 2, (some Jvm.ClassFile.FieldType.char))
theorem mo_UTF16_getChar : MOK Y_UTF16_getChar 2 := ⟨wA 297 (by decide +kernel) rfl, wA 13 (by decide +kernel) rfl, by decide +kernel, by decide +kernel, by decide⟩
theorem ms_UTF16_getChar : MS Y_UTF16_getChar := wA 296 (by decide +kernel) rfl
def Y_Text_fits : Yx := (⟨R_Text, "fits", "(CI)Z"⟩, prog_6_method_10_code, 3, (some Jvm.ClassFile.FieldType.boolean))
theorem mo_Text_fits : MOK Y_Text_fits 2 := ⟨wA 307 (by decide +kernel) rfl, wA 8 (by decide +kernel) rfl, by decide +kernel, by decide +kernel, by decide⟩
theorem mi_Text_fits : MI Y_Text_fits := wA 306 (by decide +kernel) rfl
theorem mv_Text_fits : MV Y_Text_fits := wS 4 (by decide +kernel) rfl
def Y_Text_kind : Yx := (⟨R_Text, "kind", "(I)I"⟩, prog_6_method_8_code, 3, (some Jvm.ClassFile.FieldType.int))
theorem mo_Text_kind : MOK Y_Text_kind 1 := ⟨wA 311 (by decide +kernel) rfl, wA 8 (by decide +kernel) rfl, by decide +kernel, by decide +kernel, by decide⟩
theorem mi_Text_kind : MI Y_Text_kind := wA 310 (by decide +kernel) rfl
theorem mv_Text_kind : MV Y_Text_kind := wS 5 (by decide +kernel) rfl
def Y_Mind_take : Yx := (⟨R_Mind, "take", "(LOneTuneNine$Canon;)LOneTuneNine$Canon;"⟩, prog_4_method_2_code, 2, (some (Jvm.ClassFile.FieldType.object "OneTuneNine$Canon")))
theorem mo_Mind_take : MOK Y_Mind_take 1 := ⟨wA 316 (by decide +kernel) rfl, wA 5 (by decide +kernel) rfl, by decide +kernel, by decide +kernel, by decide⟩
theorem mi_Mind_take : MI Y_Mind_take := wA 314 (by decide +kernel) rfl
theorem mv_Mind_take : MV Y_Mind_take := wA 315 (by decide +kernel) rfl
def Y_Canon_copyFrom : Yx := (⟨R_Canon, "copyFrom", "(LOneTuneNine$Canon;)V"⟩, prog_2_method_2_code, 2, none)
theorem mo_Canon_copyFrom : MOK Y_Canon_copyFrom 1 := ⟨wA 320 (by decide +kernel) rfl, wA 2 (by decide +kernel) rfl, by decide +kernel, by decide +kernel, by decide⟩
theorem mi_Canon_copyFrom : MI Y_Canon_copyFrom := wA 318 (by decide +kernel) rfl
theorem mv_Canon_copyFrom : MV Y_Canon_copyFrom := wA 319 (by decide +kernel) rfl
def Y_Tune_copyFrom : Yx := (⟨R_Tune, "copyFrom", "(LOneTuneNine$Tune;)V"⟩, prog_7_method_12_code, 2, none)
theorem mo_Tune_copyFrom : MOK Y_Tune_copyFrom 1 := ⟨wA 324 (by decide +kernel) rfl, wA 3 (by decide +kernel) rfl, by decide +kernel, by decide +kernel, by decide⟩
theorem mi_Tune_copyFrom : MI Y_Tune_copyFrom := wA 322 (by decide +kernel) rfl
theorem mv_Tune_copyFrom : MV Y_Tune_copyFrom := wA 323 (by decide +kernel) rfl
def Y_Row_copyFrom : Yx := (⟨R_Row, "copyFrom", "(LOneTuneNine$Row;)V"⟩, prog_5_method_8_code, 3, none)
theorem mo_Row_copyFrom : MOK Y_Row_copyFrom 1 := ⟨wA 328 (by decide +kernel) rfl, wA 4 (by decide +kernel) rfl, by decide +kernel, by decide +kernel, by decide⟩
theorem mi_Row_copyFrom : MI Y_Row_copyFrom := wA 326 (by decide +kernel) rfl
theorem mv_Row_copyFrom : MV Y_Row_copyFrom := wA 327 (by decide +kernel) rfl
def Y_Row_clear : Yx := (⟨R_Row, "clear", "()V"⟩, prog_5_method_7_code, 1, none)
theorem mo_Row_clear : MOK Y_Row_clear 0 := ⟨wA 332 (by decide +kernel) rfl, wA 4 (by decide +kernel) rfl, by decide +kernel, by decide +kernel, by decide⟩
theorem mi_Row_clear : MI Y_Row_clear := wA 330 (by decide +kernel) rfl
theorem mv_Row_clear : MV Y_Row_clear := wA 331 (by decide +kernel) rfl
def Y_Text_tellAll : Yx := (⟨R_Text, "tellAll", "(LOneTuneNine$Canon;)I"⟩, prog_6_method_12_code, 5, (some Jvm.ClassFile.FieldType.int))
theorem mo_Text_tellAll : MOK Y_Text_tellAll 1 := ⟨wA 340 (by decide +kernel) rfl, wA 8 (by decide +kernel) rfl, by decide +kernel, by decide +kernel, by decide⟩
theorem mi_Text_tellAll : MI Y_Text_tellAll := wA 338 (by decide +kernel) rfl
theorem mv_Text_tellAll : MV Y_Text_tellAll := wA 339 (by decide +kernel) rfl
def Y_Text_tell : Yx := (⟨R_Text, "tell", "(LOneTuneNine$Canon;II)Z"⟩, prog_6_method_13_code, 4, (some Jvm.ClassFile.FieldType.boolean))
theorem mo_Text_tell : MOK Y_Text_tell 3 := ⟨wA 344 (by decide +kernel) rfl, wA 8 (by decide +kernel) rfl, by decide +kernel, by decide +kernel, by decide⟩
theorem mi_Text_tell : MI Y_Text_tell := wA 343 (by decide +kernel) rfl
theorem mv_Text_tell : MV Y_Text_tell := wS 6 (by decide +kernel) rfl
def Y_Text_digit : Yx := (⟨R_Text, "digit", "(I)I"⟩, prog_6_method_7_code, 2, (some Jvm.ClassFile.FieldType.int))
theorem mo_Text_digit : MOK Y_Text_digit 1 := ⟨wA 348 (by decide +kernel) rfl, wA 8 (by decide +kernel) rfl, by decide +kernel, by decide +kernel, by decide⟩
theorem mi_Text_digit : MI Y_Text_digit := wA 347 (by decide +kernel) rfl
theorem mv_Text_digit : MV Y_Text_digit := wS 7 (by decide +kernel) rfl
def Y_Canon_tellNote : Yx := (⟨R_Canon, "tellNote", "(II)Z"⟩, prog_2_method_10_code, 3, (some Jvm.ClassFile.FieldType.boolean))
theorem mo_Canon_tellNote : MOK Y_Canon_tellNote 2 := ⟨wA 352 (by decide +kernel) rfl, wA 2 (by decide +kernel) rfl, by decide +kernel, by decide +kernel, by decide⟩
theorem mi_Canon_tellNote : MI Y_Canon_tellNote := wA 350 (by decide +kernel) rfl
theorem mv_Canon_tellNote : MV Y_Canon_tellNote := wA 351 (by decide +kernel) rfl
def Y_Tune_notes : Yx := (⟨R_Tune, "notes", "()I"⟩, prog_7_method_2_code, 1, (some Jvm.ClassFile.FieldType.int))
theorem mo_Tune_notes : MOK Y_Tune_notes 0 := ⟨wA 356 (by decide +kernel) rfl, wA 3 (by decide +kernel) rfl, by decide +kernel, by decide +kernel, by decide⟩
theorem mi_Tune_notes : MI Y_Tune_notes := wA 354 (by decide +kernel) rfl
theorem mv_Tune_notes : MV Y_Tune_notes := wA 355 (by decide +kernel) rfl
def Y_Tune_add : Yx := (⟨R_Tune, "add", "(II)V"⟩, prog_7_method_10_code, 5, none)
theorem mo_Tune_add : MOK Y_Tune_add 2 := ⟨wA 361 (by decide +kernel) rfl, wA 3 (by decide +kernel) rfl, by decide +kernel, by decide +kernel, by decide⟩
theorem mi_Tune_add : MI Y_Tune_add := wA 359 (by decide +kernel) rfl
theorem mv_Tune_add : MV Y_Tune_add := wA 360 (by decide +kernel) rfl
def Y_Text_entry : Yx := (⟨R_Text, "entry", "(I)I"⟩, prog_6_method_14_code, 2, (some Jvm.ClassFile.FieldType.int))
theorem mo_Text_entry : MOK Y_Text_entry 1 := ⟨wA 366 (by decide +kernel) rfl, wA 8 (by decide +kernel) rfl, by decide +kernel, by decide +kernel, by decide⟩
theorem mi_Text_entry : MI Y_Text_entry := wA 365 (by decide +kernel) rfl
theorem mv_Text_entry : MV Y_Text_entry := wS 8 (by decide +kernel) rfl
def Y_Canon_tellVoice : Yx := (⟨R_Canon, "tellVoice", "(III)Z"⟩, prog_2_method_11_code, 4, (some Jvm.ClassFile.FieldType.boolean))
theorem mo_Canon_tellVoice : MOK Y_Canon_tellVoice 3 := ⟨wA 370 (by decide +kernel) rfl, wA 2 (by decide +kernel) rfl, by decide +kernel, by decide +kernel, by decide⟩
theorem mi_Canon_tellVoice : MI Y_Canon_tellVoice := wA 368 (by decide +kernel) rfl
theorem mv_Canon_tellVoice : MV Y_Canon_tellVoice := wA 369 (by decide +kernel) rfl
def Y_Canon_voices : Yx := (⟨R_Canon, "voices", "()I"⟩, prog_2_method_3_code, 1, (some Jvm.ClassFile.FieldType.int))
theorem mo_Canon_voices : MOK Y_Canon_voices 0 := ⟨wA 374 (by decide +kernel) rfl, wA 2 (by decide +kernel) rfl, by decide +kernel, by decide +kernel, by decide⟩
theorem mi_Canon_voices : MI Y_Canon_voices := wA 372 (by decide +kernel) rfl
theorem mv_Canon_voices : MV Y_Canon_voices := wA 373 (by decide +kernel) rfl
def Y_Canon_addVoice : Yx := (⟨R_Canon, "addVoice", "(III)V"⟩, prog_2_method_9_code, 4, none)
theorem mo_Canon_addVoice : MOK Y_Canon_addVoice 3 := ⟨wA 379 (by decide +kernel) rfl, wA 2 (by decide +kernel) rfl, by decide +kernel, by decide +kernel, by decide⟩
theorem mi_Canon_addVoice : MI Y_Canon_addVoice := wA 377 (by decide +kernel) rfl
theorem mv_Canon_addVoice : MV Y_Canon_addVoice := wA 378 (by decide +kernel) rfl
def Y_Canon_tellRounds : Yx := (⟨R_Canon, "tellRounds", "(II)Z"⟩, prog_2_method_12_code, 3, (some Jvm.ClassFile.FieldType.boolean))
theorem mo_Canon_tellRounds : MOK Y_Canon_tellRounds 2 := ⟨wA 384 (by decide +kernel) rfl, wA 2 (by decide +kernel) rfl, by decide +kernel, by decide +kernel, by decide⟩
theorem mi_Canon_tellRounds : MI Y_Canon_tellRounds := wA 382 (by decide +kernel) rfl
theorem mv_Canon_tellRounds : MV Y_Canon_tellRounds := wA 383 (by decide +kernel) rfl
def Y_Canon_tellWell : Yx := (⟨R_Canon, "tellWell", "(I)Z"⟩, prog_2_method_13_code, 2, (some Jvm.ClassFile.FieldType.boolean))
theorem mo_Canon_tellWell : MOK Y_Canon_tellWell 1 := ⟨wA 388 (by decide +kernel) rfl, wA 2 (by decide +kernel) rfl, by decide +kernel, by decide +kernel, by decide⟩
theorem mi_Canon_tellWell : MI Y_Canon_tellWell := wA 386 (by decide +kernel) rfl
theorem mv_Canon_tellWell : MV Y_Canon_tellWell := wA 387 (by decide +kernel) rfl
def Y_Text_clear : Yx := (⟨R_Text, "clear", "()V"⟩, prog_6_method_4_code, 1, none)
theorem mo_Text_clear : MOK Y_Text_clear 0 := ⟨wA 393 (by decide +kernel) rfl, wA 8 (by decide +kernel) rfl, by decide +kernel, by decide +kernel, by decide⟩
theorem mi_Text_clear : MI Y_Text_clear := wA 391 (by decide +kernel) rfl
theorem mv_Text_clear : MV Y_Text_clear := wA 392 (by decide +kernel) rfl
def Y_Main_note : Yx := (⟨R_Main, "note", "(II)I"⟩, prog_1_method_4_code, 3, (some Jvm.ClassFile.FieldType.int))
theorem mo_Main_note : MOK Y_Main_note 2 := ⟨wA 399 (by decide +kernel) rfl, wA 1 (by decide +kernel) rfl, by decide +kernel, by decide +kernel, by decide⟩
theorem mi_Main_note : MI Y_Main_note := wA 397 (by decide +kernel) rfl
theorem mv_Main_note : MV Y_Main_note := wA 398 (by decide +kernel) rfl
def Y_Tune_has : Yx := (⟨R_Tune, "has", "(I)Z"⟩, prog_7_method_3_code, 2, (some Jvm.ClassFile.FieldType.boolean))
theorem mo_Tune_has : MOK Y_Tune_has 1 := ⟨wA 403 (by decide +kernel) rfl, wA 3 (by decide +kernel) rfl, by decide +kernel, by decide +kernel, by decide⟩
theorem mi_Tune_has : MI Y_Tune_has := wA 401 (by decide +kernel) rfl
theorem mv_Tune_has : MV Y_Tune_has := wA 402 (by decide +kernel) rfl
def Y_Tune_pitchOf : Yx := (⟨R_Tune, "pitchOf", "(I)I"⟩, prog_7_method_4_code, 2, (some Jvm.ClassFile.FieldType.int))
theorem mo_Tune_pitchOf : MOK Y_Tune_pitchOf 1 := ⟨wA 408 (by decide +kernel) rfl, wA 3 (by decide +kernel) rfl, by decide +kernel, by decide +kernel, by decide⟩
theorem mi_Tune_pitchOf : MI Y_Tune_pitchOf := wA 406 (by decide +kernel) rfl
theorem mv_Tune_pitchOf : MV Y_Tune_pitchOf := wA 407 (by decide +kernel) rfl
def Y_Tune_lengthOf : Yx := (⟨R_Tune, "lengthOf", "(I)I"⟩, prog_7_method_5_code, 2, (some Jvm.ClassFile.FieldType.int))
theorem mo_Tune_lengthOf : MOK Y_Tune_lengthOf 1 := ⟨wA 413 (by decide +kernel) rfl, wA 3 (by decide +kernel) rfl, by decide +kernel, by decide +kernel, by decide⟩
theorem mi_Tune_lengthOf : MI Y_Tune_lengthOf := wA 411 (by decide +kernel) rfl
theorem mv_Tune_lengthOf : MV Y_Tune_lengthOf := wA 412 (by decide +kernel) rfl
def Y_Tune_startOf : Yx := (⟨R_Tune, "startOf", "(I)I"⟩, prog_7_method_6_code, 4, (some Jvm.ClassFile.FieldType.int))
theorem mo_Tune_startOf : MOK Y_Tune_startOf 1 := ⟨wA 417 (by decide +kernel) rfl, wA 3 (by decide +kernel) rfl, by decide +kernel, by decide +kernel, by decide⟩
theorem mi_Tune_startOf : MI Y_Tune_startOf := wA 415 (by decide +kernel) rfl
theorem mv_Tune_startOf : MV Y_Tune_startOf := wA 416 (by decide +kernel) rfl
def Y_Main_voice : Yx := (⟨R_Main, "voice", "(II)I"⟩, prog_1_method_5_code, 3, (some Jvm.ClassFile.FieldType.int))
theorem mo_Main_voice : MOK Y_Main_voice 2 := ⟨wA 421 (by decide +kernel) rfl, wA 1 (by decide +kernel) rfl, by decide +kernel, by decide +kernel, by decide⟩
theorem mi_Main_voice : MI Y_Main_voice := wA 419 (by decide +kernel) rfl
theorem mv_Main_voice : MV Y_Main_voice := wA 420 (by decide +kernel) rfl
def Y_Canon_hasVoice : Yx := (⟨R_Canon, "hasVoice", "(I)Z"⟩, prog_2_method_4_code, 2, (some Jvm.ClassFile.FieldType.boolean))
theorem mo_Canon_hasVoice : MOK Y_Canon_hasVoice 1 := ⟨wA 425 (by decide +kernel) rfl, wA 2 (by decide +kernel) rfl, by decide +kernel, by decide +kernel, by decide⟩
theorem mi_Canon_hasVoice : MI Y_Canon_hasVoice := wA 423 (by decide +kernel) rfl
theorem mv_Canon_hasVoice : MV Y_Canon_hasVoice := wA 424 (by decide +kernel) rfl
def Y_Canon_kindOf : Yx := (⟨R_Canon, "kindOf", "(I)I"⟩, prog_2_method_5_code, 2, (some Jvm.ClassFile.FieldType.int))
theorem mo_Canon_kindOf : MOK Y_Canon_kindOf 1 := ⟨wA 430 (by decide +kernel) rfl, wA 2 (by decide +kernel) rfl, by decide +kernel, by decide +kernel, by decide⟩
theorem mi_Canon_kindOf : MI Y_Canon_kindOf := wA 428 (by decide +kernel) rfl
theorem mv_Canon_kindOf : MV Y_Canon_kindOf := wA 429 (by decide +kernel) rfl
def Y_Canon_entryOf : Yx := (⟨R_Canon, "entryOf", "(I)I"⟩, prog_2_method_6_code, 2, (some Jvm.ClassFile.FieldType.int))
theorem mo_Canon_entryOf : MOK Y_Canon_entryOf 1 := ⟨wA 435 (by decide +kernel) rfl, wA 2 (by decide +kernel) rfl, by decide +kernel, by decide +kernel, by decide⟩
theorem mi_Canon_entryOf : MI Y_Canon_entryOf := wA 433 (by decide +kernel) rfl
theorem mv_Canon_entryOf : MV Y_Canon_entryOf := wA 434 (by decide +kernel) rfl
def Y_Canon_highOf : Yx := (⟨R_Canon, "highOf", "(I)I"⟩, prog_2_method_7_code, 2, (some Jvm.ClassFile.FieldType.int))
theorem mo_Canon_highOf : MOK Y_Canon_highOf 1 := ⟨wA 439 (by decide +kernel) rfl, wA 2 (by decide +kernel) rfl, by decide +kernel, by decide +kernel, by decide⟩
theorem mi_Canon_highOf : MI Y_Canon_highOf := wA 437 (by decide +kernel) rfl
theorem mv_Canon_highOf : MV Y_Canon_highOf := wA 438 (by decide +kernel) rfl
def Y_Canon_roundBeats : Yx := (⟨R_Canon, "roundBeats", "(I)I"⟩, prog_2_method_14_code, 2, (some Jvm.ClassFile.FieldType.int))
theorem mo_Canon_roundBeats : MOK Y_Canon_roundBeats 1 := ⟨wA 443 (by decide +kernel) rfl, wA 2 (by decide +kernel) rfl, by decide +kernel, by decide +kernel, by decide⟩
theorem mi_Canon_roundBeats : MI Y_Canon_roundBeats := wA 441 (by decide +kernel) rfl
theorem mv_Canon_roundBeats : MV Y_Canon_roundBeats := wA 442 (by decide +kernel) rfl
def Y_Canon_stillFrom : Yx := (⟨R_Canon, "stillFrom", "(I)I"⟩, prog_2_method_15_code, 2, (some Jvm.ClassFile.FieldType.int))
theorem mo_Canon_stillFrom : MOK Y_Canon_stillFrom 1 := ⟨wA 447 (by decide +kernel) rfl, wA 2 (by decide +kernel) rfl, by decide +kernel, by decide +kernel, by decide⟩
theorem mi_Canon_stillFrom : MI Y_Canon_stillFrom := wA 445 (by decide +kernel) rfl
theorem mv_Canon_stillFrom : MV Y_Canon_stillFrom := wA 446 (by decide +kernel) rfl
def Y_Main_pitch : Yx := (⟨R_Main, "pitch", "(II)I"⟩, prog_1_method_6_code, 5, (some Jvm.ClassFile.FieldType.int))
theorem mo_Main_pitch : MOK Y_Main_pitch 2 := ⟨wA 452 (by decide +kernel) rfl, wA 1 (by decide +kernel) rfl, by decide +kernel, by decide +kernel, by decide⟩
theorem mi_Main_pitch : MI Y_Main_pitch := wA 450 (by decide +kernel) rfl
theorem mv_Main_pitch : MV Y_Main_pitch := wA 451 (by decide +kernel) rfl
def Y_Tune_setPitch : Yx := (⟨R_Tune, "setPitch", "(II)V"⟩, prog_7_method_9_code, 3, none)
theorem mo_Tune_setPitch : MOK Y_Tune_setPitch 2 := ⟨wA 456 (by decide +kernel) rfl, wA 3 (by decide +kernel) rfl, by decide +kernel, by decide +kernel, by decide⟩
theorem mi_Tune_setPitch : MI Y_Tune_setPitch := wA 454 (by decide +kernel) rfl
theorem mv_Tune_setPitch : MV Y_Tune_setPitch := wA 455 (by decide +kernel) rfl
def Y_Main_enter : Yx := (⟨R_Main, "enter", "(II)I"⟩, prog_1_method_7_code, 5, (some Jvm.ClassFile.FieldType.int))
theorem mo_Main_enter : MOK Y_Main_enter 2 := ⟨wA 461 (by decide +kernel) rfl, wA 1 (by decide +kernel) rfl, by decide +kernel, by decide +kernel, by decide⟩
theorem mi_Main_enter : MI Y_Main_enter := wA 459 (by decide +kernel) rfl
theorem mv_Main_enter : MV Y_Main_enter := wA 460 (by decide +kernel) rfl
def Y_Canon_setEntry : Yx := (⟨R_Canon, "setEntry", "(II)V"⟩, prog_2_method_8_code, 3, none)
theorem mo_Canon_setEntry : MOK Y_Canon_setEntry 2 := ⟨wA 465 (by decide +kernel) rfl, wA 2 (by decide +kernel) rfl, by decide +kernel, by decide +kernel, by decide⟩
theorem mi_Canon_setEntry : MI Y_Canon_setEntry := wA 463 (by decide +kernel) rfl
theorem mv_Canon_setEntry : MV Y_Canon_setEntry := wA 464 (by decide +kernel) rfl
def Y_Main_rounds : Yx := (⟨R_Main, "rounds", "(I)I"⟩, prog_1_method_8_code, 4, (some Jvm.ClassFile.FieldType.int))
theorem mo_Main_rounds : MOK Y_Main_rounds 1 := ⟨wA 470 (by decide +kernel) rfl, wA 1 (by decide +kernel) rfl, by decide +kernel, by decide +kernel, by decide⟩
theorem mi_Main_rounds : MI Y_Main_rounds := wA 468 (by decide +kernel) rfl
theorem mv_Main_rounds : MV Y_Main_rounds := wA 469 (by decide +kernel) rfl
def Y_Main_step : Yx := (⟨R_Main, "step", "(I)I"⟩, prog_1_method_9_code, 4, (some Jvm.ClassFile.FieldType.int))
theorem mo_Main_step : MOK Y_Main_step 1 := ⟨wA 474 (by decide +kernel) rfl, wA 1 (by decide +kernel) rfl, by decide +kernel, by decide +kernel, by decide⟩
theorem mi_Main_step : MI Y_Main_step := wA 472 (by decide +kernel) rfl
theorem mv_Main_step : MV Y_Main_step := wA 473 (by decide +kernel) rfl
def Y_Main_law : Yx := (⟨R_Main, "law", "(I)I"⟩, prog_1_method_10_code, 4, (some Jvm.ClassFile.FieldType.int))
theorem mo_Main_law : MOK Y_Main_law 1 := ⟨wA 478 (by decide +kernel) rfl, wA 1 (by decide +kernel) rfl, by decide +kernel, by decide +kernel, by decide⟩
theorem mi_Main_law : MI Y_Main_law := wA 476 (by decide +kernel) rfl
theorem mv_Main_law : MV Y_Main_law := wA 477 (by decide +kernel) rfl
def Y_Main_sound : Yx := (⟨R_Main, "sound", "(II)I"⟩, prog_1_method_11_code, 4, (some Jvm.ClassFile.FieldType.int))
theorem mo_Main_sound : MOK Y_Main_sound 2 := ⟨wA 482 (by decide +kernel) rfl, wA 1 (by decide +kernel) rfl, by decide +kernel, by decide +kernel, by decide⟩
theorem mi_Main_sound : MI Y_Main_sound := wA 480 (by decide +kernel) rfl
theorem mv_Main_sound : MV Y_Main_sound := wA 481 (by decide +kernel) rfl
def Y_Canon_soundOf : Yx := (⟨R_Canon, "soundOf", "(II)I"⟩, prog_2_method_20_code, 6, (some Jvm.ClassFile.FieldType.int))
theorem mo_Canon_soundOf : MOK Y_Canon_soundOf 2 := ⟨wA 487 (by decide +kernel) rfl, wA 2 (by decide +kernel) rfl, by decide +kernel, by decide +kernel, by decide⟩
theorem mi_Canon_soundOf : MI Y_Canon_soundOf := wA 485 (by decide +kernel) rfl
theorem mv_Canon_soundOf : MV Y_Canon_soundOf := wA 486 (by decide +kernel) rfl
def Y_Canon_noteSung : Yx := (⟨R_Canon, "noteSung", "(II)I"⟩, prog_2_method_17_code, 6, (some Jvm.ClassFile.FieldType.int))
theorem mo_Canon_noteSung : MOK Y_Canon_noteSung 2 := ⟨wA 491 (by decide +kernel) rfl, wA 2 (by decide +kernel) rfl, by decide +kernel, by decide +kernel, by decide⟩
theorem mi_Canon_noteSung : MI Y_Canon_noteSung := wA 489 (by decide +kernel) rfl
theorem mv_Canon_noteSung : MV Y_Canon_noteSung := wA 490 (by decide +kernel) rfl
def Y_Tune_noteAt : Yx := (⟨R_Tune, "noteAt", "(I)I"⟩, prog_7_method_7_code, 2, (some Jvm.ClassFile.FieldType.int))
theorem mo_Tune_noteAt : MOK Y_Tune_noteAt 1 := ⟨wA 495 (by decide +kernel) rfl, wA 3 (by decide +kernel) rfl, by decide +kernel, by decide +kernel, by decide⟩
theorem mi_Tune_noteAt : MI Y_Tune_noteAt := wA 493 (by decide +kernel) rfl
theorem mv_Tune_noteAt : MV Y_Tune_noteAt := wA 494 (by decide +kernel) rfl
def Y_Canon_isTurned : Yx := (⟨R_Canon, "isTurned", "(I)Z"⟩, prog_2_method_18_code, 3, (some Jvm.ClassFile.FieldType.boolean))
theorem mo_Canon_isTurned : MOK Y_Canon_isTurned 1 := ⟨wA 500 (by decide +kernel) rfl, wA 2 (by decide +kernel) rfl, by decide +kernel, by decide +kernel, by decide⟩
theorem mi_Canon_isTurned : MI Y_Canon_isTurned := wA 498 (by decide +kernel) rfl
theorem mv_Canon_isTurned : MV Y_Canon_isTurned := wA 499 (by decide +kernel) rfl
def Y_Canon_lift : Yx := (⟨R_Canon, "lift", "(II)I"⟩, prog_2_method_19_code, 6, (some Jvm.ClassFile.FieldType.int))
theorem mo_Canon_lift : MOK Y_Canon_lift 2 := ⟨wA 504 (by decide +kernel) rfl, wA 2 (by decide +kernel) rfl, by decide +kernel, by decide +kernel, by decide⟩
theorem mi_Canon_lift : MI Y_Canon_lift := wA 502 (by decide +kernel) rfl
theorem mv_Canon_lift : MV Y_Canon_lift := wA 503 (by decide +kernel) rfl
def Y_Main_ill : Yx := (⟨R_Main, "ill", "(I)I"⟩, prog_1_method_12_code, 3, (some Jvm.ClassFile.FieldType.int))
theorem mo_Main_ill : MOK Y_Main_ill 1 := ⟨wA 508 (by decide +kernel) rfl, wA 1 (by decide +kernel) rfl, by decide +kernel, by decide +kernel, by decide⟩
theorem mi_Main_ill : MI Y_Main_ill := wA 506 (by decide +kernel) rfl
theorem mv_Main_ill : MV Y_Main_ill := wA 507 (by decide +kernel) rfl
def Y_Canon_illsAt : Yx := (⟨R_Canon, "illsAt", "(I)I"⟩, prog_2_method_23_code, 5, (some Jvm.ClassFile.FieldType.int))
theorem mo_Canon_illsAt : MOK Y_Canon_illsAt 1 := ⟨wA 512 (by decide +kernel) rfl, wA 2 (by decide +kernel) rfl, by decide +kernel, by decide +kernel, by decide⟩
theorem mi_Canon_illsAt : MI Y_Canon_illsAt := wA 510 (by decide +kernel) rfl
theorem mv_Canon_illsAt : MV Y_Canon_illsAt := wA 511 (by decide +kernel) rfl
def Y_Canon_listen : Yx := (⟨R_Canon, "listen", "(I)V"⟩, prog_2_method_21_code, 4, none)
theorem mo_Canon_listen : MOK Y_Canon_listen 1 := ⟨wA 516 (by decide +kernel) rfl, wA 2 (by decide +kernel) rfl, by decide +kernel, by decide +kernel, by decide⟩
theorem mi_Canon_listen : MI Y_Canon_listen := wA 515 (by decide +kernel) rfl
theorem mv_Canon_listen : MV Y_Canon_listen := wS 9 (by decide +kernel) rfl
def Y_Canon_clash : Yx := (⟨R_Canon, "clash", "(II)Z"⟩, prog_2_method_22_code, 3, (some Jvm.ClassFile.FieldType.boolean))
theorem mo_Canon_clash : MOK Y_Canon_clash 2 := ⟨wA 522 (by decide +kernel) rfl, wA 2 (by decide +kernel) rfl, by decide +kernel, by decide +kernel, by decide⟩
theorem mi_Canon_clash : MI Y_Canon_clash := wA 521 (by decide +kernel) rfl
theorem mv_Canon_clash : MV Y_Canon_clash := wS 10 (by decide +kernel) rfl
def Y_Main_soundsWell : Yx := (⟨R_Main, "soundsWell", "(II)Z"⟩, prog_1_method_33_code, 2, (some Jvm.ClassFile.FieldType.boolean))
theorem mo_Main_soundsWell : MOK Y_Main_soundsWell 2 := ⟨wA 525 (by decide +kernel) rfl, wA 1 (by decide +kernel) rfl, by decide +kernel, by decide +kernel, by decide⟩
theorem ms_Main_soundsWell : MS Y_Main_soundsWell := wA 524 (by decide +kernel) rfl
def Y_Main_first : Yx := (⟨R_Main, "first", "(I)I"⟩, prog_1_method_13_code, 3, (some Jvm.ClassFile.FieldType.int))
theorem mo_Main_first : MOK Y_Main_first 1 := ⟨wA 532 (by decide +kernel) rfl, wA 1 (by decide +kernel) rfl, by decide +kernel, by decide +kernel, by decide⟩
theorem mi_Main_first : MI Y_Main_first := wA 530 (by decide +kernel) rfl
theorem mv_Main_first : MV Y_Main_first := wA 531 (by decide +kernel) rfl
def Y_Canon_firstIllBeat : Yx := (⟨R_Canon, "firstIllBeat", "()I"⟩, prog_2_method_25_code, 3, (some Jvm.ClassFile.FieldType.int))
theorem mo_Canon_firstIllBeat : MOK Y_Canon_firstIllBeat 0 := ⟨wA 536 (by decide +kernel) rfl, wA 2 (by decide +kernel) rfl, by decide +kernel, by decide +kernel, by decide⟩
theorem mi_Canon_firstIllBeat : MI Y_Canon_firstIllBeat := wA 534 (by decide +kernel) rfl
theorem mv_Canon_firstIllBeat : MV Y_Canon_firstIllBeat := wA 535 (by decide +kernel) rfl
def Y_Canon_end : Yx := (⟨R_Canon, "end", "()I"⟩, prog_2_method_16_code, 3, (some Jvm.ClassFile.FieldType.int))
theorem mo_Canon_end : MOK Y_Canon_end 0 := ⟨wA 540 (by decide +kernel) rfl, wA 2 (by decide +kernel) rfl, by decide +kernel, by decide +kernel, by decide⟩
theorem mi_Canon_end : MI Y_Canon_end := wA 538 (by decide +kernel) rfl
theorem mv_Canon_end : MV Y_Canon_end := wA 539 (by decide +kernel) rfl
def Y_Canon_firstIllPair : Yx := (⟨R_Canon, "firstIllPair", "(I)I"⟩, prog_2_method_26_code, 4, (some Jvm.ClassFile.FieldType.int))
theorem mo_Canon_firstIllPair : MOK Y_Canon_firstIllPair 1 := ⟨wA 549 (by decide +kernel) rfl, wA 2 (by decide +kernel) rfl, by decide +kernel, by decide +kernel, by decide⟩
theorem mi_Canon_firstIllPair : MI Y_Canon_firstIllPair := wA 547 (by decide +kernel) rfl
theorem mv_Canon_firstIllPair : MV Y_Canon_firstIllPair := wA 548 (by decide +kernel) rfl
def Y_Main_allIll : Yx := (⟨R_Main, "allIll", "()I"⟩, prog_1_method_14_code, 1, (some Jvm.ClassFile.FieldType.int))
theorem mo_Main_allIll : MOK Y_Main_allIll 0 := ⟨wA 553 (by decide +kernel) rfl, wA 1 (by decide +kernel) rfl, by decide +kernel, by decide +kernel, by decide⟩
theorem mi_Main_allIll : MI Y_Main_allIll := wA 551 (by decide +kernel) rfl
theorem mv_Main_allIll : MV Y_Main_allIll := wA 552 (by decide +kernel) rfl
def Y_Canon_illsInAll : Yx := (⟨R_Canon, "illsInAll", "()I"⟩, prog_2_method_24_code, 4, (some Jvm.ClassFile.FieldType.int))
theorem mo_Canon_illsInAll : MOK Y_Canon_illsInAll 0 := ⟨wA 557 (by decide +kernel) rfl, wA 2 (by decide +kernel) rfl, by decide +kernel, by decide +kernel, by decide⟩
theorem mi_Canon_illsInAll : MI Y_Canon_illsInAll := wA 555 (by decide +kernel) rfl
theorem mv_Canon_illsInAll : MV Y_Canon_illsInAll := wA 556 (by decide +kernel) rfl
def Y_Main_entries : Yx := (⟨R_Main, "entries", "(II)I"⟩, prog_1_method_15_code, 4, (some Jvm.ClassFile.FieldType.int))
theorem mo_Main_entries : MOK Y_Main_entries 2 := ⟨wA 561 (by decide +kernel) rfl, wA 1 (by decide +kernel) rfl, by decide +kernel, by decide +kernel, by decide⟩
theorem mi_Main_entries : MI Y_Main_entries := wA 559 (by decide +kernel) rfl
theorem mv_Main_entries : MV Y_Main_entries := wA 560 (by decide +kernel) rfl
def Y_Mind_agreeingEntries : Yx := (⟨R_Mind, "agreeingEntries", "(LOneTuneNine$Canon;II)I"⟩, prog_4_method_3_code, 7, (some Jvm.ClassFile.FieldType.int))
theorem mo_Mind_agreeingEntries : MOK Y_Mind_agreeingEntries 3 := ⟨wA 565 (by decide +kernel) rfl, wA 5 (by decide +kernel) rfl, by decide +kernel, by decide +kernel, by decide⟩
theorem mi_Mind_agreeingEntries : MI Y_Mind_agreeingEntries := wA 563 (by decide +kernel) rfl
theorem mv_Mind_agreeingEntries : MV Y_Mind_agreeingEntries := wA 564 (by decide +kernel) rfl
def Y_Canon_lastAgreesWithAll : Yx := (⟨R_Canon, "lastAgreesWithAll", "()Z"⟩, prog_2_method_28_code, 6, (some Jvm.ClassFile.FieldType.boolean))
theorem mo_Canon_lastAgreesWithAll : MOK Y_Canon_lastAgreesWithAll 0 := ⟨wA 573 (by decide +kernel) rfl, wA 2 (by decide +kernel) rfl, by decide +kernel, by decide +kernel, by decide⟩
theorem mi_Canon_lastAgreesWithAll : MI Y_Canon_lastAgreesWithAll := wA 571 (by decide +kernel) rfl
theorem mv_Canon_lastAgreesWithAll : MV Y_Canon_lastAgreesWithAll := wA 572 (by decide +kernel) rfl
def Y_Main_added : Yx := (⟨R_Main, "added", "()I"⟩, prog_1_method_16_code, 1, (some Jvm.ClassFile.FieldType.int))
theorem mo_Main_added : MOK Y_Main_added 0 := ⟨wA 577 (by decide +kernel) rfl, wA 1 (by decide +kernel) rfl, by decide +kernel, by decide +kernel, by decide⟩
theorem mi_Main_added : MI Y_Main_added := wA 575 (by decide +kernel) rfl
theorem mv_Main_added : MV Y_Main_added := wA 576 (by decide +kernel) rfl
def Y_Mind_addablePitches : Yx := (⟨R_Mind, "addablePitches", "(LOneTuneNine$Canon;)I"⟩, prog_4_method_4_code, 5, (some Jvm.ClassFile.FieldType.int))
theorem mo_Mind_addablePitches : MOK Y_Mind_addablePitches 1 := ⟨wA 581 (by decide +kernel) rfl, wA 5 (by decide +kernel) rfl, by decide +kernel, by decide +kernel, by decide⟩
theorem mi_Mind_addablePitches : MI Y_Mind_addablePitches := wA 579 (by decide +kernel) rfl
theorem mv_Mind_addablePitches : MV Y_Mind_addablePitches := wA 580 (by decide +kernel) rfl
def Y_Meetings_gather : Yx := (⟨R_Meetings, "gather", "(LOneTuneNine$Canon;)V"⟩, prog_3_method_2_code, 8, none)
theorem mo_Meetings_gather : MOK Y_Meetings_gather 1 := ⟨wA 587 (by decide +kernel) rfl, wA 6 (by decide +kernel) rfl, by decide +kernel, by decide +kernel, by decide⟩
theorem mi_Meetings_gather : MI Y_Meetings_gather := wA 585 (by decide +kernel) rfl
theorem mv_Meetings_gather : MV Y_Meetings_gather := wA 586 (by decide +kernel) rfl
def Y_Meetings_wayOf : Yx := (⟨R_Meetings, "wayOf", "(LOneTuneNine$Canon;III)I"⟩, prog_3_method_3_code, 8, (some Jvm.ClassFile.FieldType.int))
theorem mo_Meetings_wayOf : MOK Y_Meetings_wayOf 4 := ⟨wA 599 (by decide +kernel) rfl, wA 6 (by decide +kernel) rfl, by decide +kernel, by decide +kernel, by decide⟩
theorem ms_Meetings_wayOf : MS Y_Meetings_wayOf := wA 598 (by decide +kernel) rfl
def Y_Meetings_meet : Yx := (⟨R_Meetings, "meet", "(II)V"⟩, prog_3_method_4_code, 4, none)
theorem mo_Meetings_meet : MOK Y_Meetings_meet 2 := ⟨wA 606 (by decide +kernel) rfl, wA 6 (by decide +kernel) rfl, by decide +kernel, by decide +kernel, by decide⟩
theorem mi_Meetings_meet : MI Y_Meetings_meet := wA 605 (by decide +kernel) rfl
theorem mv_Meetings_meet : MV Y_Meetings_meet := wS 11 (by decide +kernel) rfl
def Y_Meetings_areWell : Yx := (⟨R_Meetings, "areWell", "(LOneTuneNine$Canon;)Z"⟩, prog_3_method_8_code, 3, (some Jvm.ClassFile.FieldType.boolean))
theorem mo_Meetings_areWell : MOK Y_Meetings_areWell 1 := ⟨wA 614 (by decide +kernel) rfl, wA 6 (by decide +kernel) rfl, by decide +kernel, by decide +kernel, by decide⟩
theorem mi_Meetings_areWell : MI Y_Meetings_areWell := wA 612 (by decide +kernel) rfl
theorem mv_Meetings_areWell : MV Y_Meetings_areWell := wA 613 (by decide +kernel) rfl
def Y_Meetings_isIll : Yx := (⟨R_Meetings, "isIll", "(ILOneTuneNine$Canon;)Z"⟩, prog_3_method_6_code, 9, (some Jvm.ClassFile.FieldType.boolean))
theorem mo_Meetings_isIll : MOK Y_Meetings_isIll 2 := ⟨wA 618 (by decide +kernel) rfl, wA 6 (by decide +kernel) rfl, by decide +kernel, by decide +kernel, by decide⟩
theorem mi_Meetings_isIll : MI Y_Meetings_isIll := wA 616 (by decide +kernel) rfl
theorem mv_Meetings_isIll : MV Y_Meetings_isIll := wA 617 (by decide +kernel) rfl
def Y_Main_silent : Yx := (⟨R_Main, "silent", "()I"⟩, prog_1_method_17_code, 1, (some Jvm.ClassFile.FieldType.int))
theorem mo_Main_silent : MOK Y_Main_silent 0 := ⟨wA 623 (by decide +kernel) rfl, wA 1 (by decide +kernel) rfl, by decide +kernel, by decide +kernel, by decide⟩
theorem mi_Main_silent : MI Y_Main_silent := wA 621 (by decide +kernel) rfl
theorem mv_Main_silent : MV Y_Main_silent := wA 622 (by decide +kernel) rfl
def Y_Canon_voicesInAllIlls : Yx := (⟨R_Canon, "voicesInAllIlls", "()I"⟩, prog_2_method_27_code, 6, (some Jvm.ClassFile.FieldType.int))
theorem mo_Canon_voicesInAllIlls : MOK Y_Canon_voicesInAllIlls 0 := ⟨wA 627 (by decide +kernel) rfl, wA 2 (by decide +kernel) rfl, by decide +kernel, by decide +kernel, by decide⟩
theorem mi_Canon_voicesInAllIlls : MI Y_Canon_voicesInAllIlls := wA 625 (by decide +kernel) rfl
theorem mv_Canon_voicesInAllIlls : MV Y_Canon_voicesInAllIlls := wA 626 (by decide +kernel) rfl
def Y_Main_changed : Yx := (⟨R_Main, "changed", "(I)I"⟩, prog_1_method_18_code, 2, (some Jvm.ClassFile.FieldType.int))
theorem mo_Main_changed : MOK Y_Main_changed 1 := ⟨wA 631 (by decide +kernel) rfl, wA 1 (by decide +kernel) rfl, by decide +kernel, by decide +kernel, by decide⟩
theorem mi_Main_changed : MI Y_Main_changed := wA 629 (by decide +kernel) rfl
theorem mv_Main_changed : MV Y_Main_changed := wA 630 (by decide +kernel) rfl
def Y_Mind_fewestChanges : Yx := (⟨R_Mind, "fewestChanges", "(LOneTuneNine$Canon;)I"⟩, prog_4_method_7_code, 2, (some Jvm.ClassFile.FieldType.int))
theorem mo_Mind_fewestChanges : MOK Y_Mind_fewestChanges 1 := ⟨wA 635 (by decide +kernel) rfl, wA 5 (by decide +kernel) rfl, by decide +kernel, by decide +kernel, by decide⟩
theorem mi_Mind_fewestChanges : MI Y_Mind_fewestChanges := wA 633 (by decide +kernel) rfl
theorem mv_Mind_fewestChanges : MV Y_Mind_fewestChanges := wA 634 (by decide +kernel) rfl
def Y_Mind_findMends : Yx := (⟨R_Mind, "findMends", "()V"⟩, prog_4_method_9_code, 2, none)
theorem mo_Mind_findMends : MOK Y_Mind_findMends 0 := ⟨wA 639 (by decide +kernel) rfl, wA 5 (by decide +kernel) rfl, by decide +kernel, by decide +kernel, by decide⟩
theorem mi_Mind_findMends : MI Y_Mind_findMends := wA 638 (by decide +kernel) rfl
theorem mv_Mind_findMends : MV Y_Mind_findMends := wS 12 (by decide +kernel) rfl
def Y_Meetings_size : Yx := (⟨R_Meetings, "size", "()I"⟩, prog_3_method_5_code, 1, (some Jvm.ClassFile.FieldType.int))
theorem mo_Meetings_size : MOK Y_Meetings_size 0 := ⟨wA 645 (by decide +kernel) rfl, wA 6 (by decide +kernel) rfl, by decide +kernel, by decide +kernel, by decide⟩
theorem mi_Meetings_size : MI Y_Meetings_size := wA 643 (by decide +kernel) rfl
theorem mv_Meetings_size : MV Y_Meetings_size := wA 644 (by decide +kernel) rfl
def Y_Meetings_notesOf : Yx := (⟨R_Meetings, "notesOf", "(I)I"⟩, prog_3_method_7_code, 3, (some Jvm.ClassFile.FieldType.int))
theorem mo_Meetings_notesOf : MOK Y_Meetings_notesOf 1 := ⟨wA 650 (by decide +kernel) rfl, wA 6 (by decide +kernel) rfl, by decide +kernel, by decide +kernel, by decide⟩
theorem mi_Meetings_notesOf : MI Y_Meetings_notesOf := wA 648 (by decide +kernel) rfl
theorem mv_Meetings_notesOf : MV Y_Meetings_notesOf := wA 649 (by decide +kernel) rfl
def Y_Mind_keepMends : Yx := (⟨R_Mind, "keepMends", "(I)V"⟩, prog_4_method_10_code, 3, none)
theorem mo_Mind_keepMends : MOK Y_Mind_keepMends 1 := ⟨wA 654 (by decide +kernel) rfl, wA 5 (by decide +kernel) rfl, by decide +kernel, by decide +kernel, by decide⟩
theorem mi_Mind_keepMends : MI Y_Mind_keepMends := wA 653 (by decide +kernel) rfl
theorem mv_Mind_keepMends : MV Y_Mind_keepMends := wS 13 (by decide +kernel) rfl
def Y_Mind_firstSingle : Yx := (⟨R_Mind, "firstSingle", "()I"⟩, prog_4_method_13_code, 3, (some Jvm.ClassFile.FieldType.int))
theorem mo_Mind_firstSingle : MOK Y_Mind_firstSingle 0 := ⟨wA 661 (by decide +kernel) rfl, wA 5 (by decide +kernel) rfl, by decide +kernel, by decide +kernel, by decide⟩
theorem mi_Mind_firstSingle : MI Y_Mind_firstSingle := wA 660 (by decide +kernel) rfl
theorem mv_Mind_firstSingle : MV Y_Mind_firstSingle := wS 14 (by decide +kernel) rfl
def Y_Mind_canMend : Yx := (⟨R_Mind, "canMend", "(II)Z"⟩, prog_4_method_11_code, 3, (some Jvm.ClassFile.FieldType.boolean))
theorem mo_Mind_canMend : MOK Y_Mind_canMend 2 := ⟨wA 665 (by decide +kernel) rfl, wA 5 (by decide +kernel) rfl, by decide +kernel, by decide +kernel, by decide⟩
theorem mi_Mind_canMend : MI Y_Mind_canMend := wA 664 (by decide +kernel) rfl
theorem mv_Mind_canMend : MV Y_Mind_canMend := wS 15 (by decide +kernel) rfl
def Y_Mind_mendingPitch : Yx := (⟨R_Mind, "mendingPitch", "(I)I"⟩, prog_4_method_12_code, 5, (some Jvm.ClassFile.FieldType.int))
theorem mo_Mind_mendingPitch : MOK Y_Mind_mendingPitch 1 := ⟨wA 669 (by decide +kernel) rfl, wA 5 (by decide +kernel) rfl, by decide +kernel, by decide +kernel, by decide⟩
theorem mi_Mind_mendingPitch : MI Y_Mind_mendingPitch := wA 668 (by decide +kernel) rfl
theorem mv_Mind_mendingPitch : MV Y_Mind_mendingPitch := wS 16 (by decide +kernel) rfl
def Y_Mind_hasPair : Yx := (⟨R_Mind, "hasPair", "()Z"⟩, prog_4_method_14_code, 5, (some Jvm.ClassFile.FieldType.boolean))
theorem mo_Mind_hasPair : MOK Y_Mind_hasPair 0 := ⟨wA 674 (by decide +kernel) rfl, wA 5 (by decide +kernel) rfl, by decide +kernel, by decide +kernel, by decide⟩
theorem mi_Mind_hasPair : MI Y_Mind_hasPair := wA 673 (by decide +kernel) rfl
theorem mv_Mind_hasPair : MV Y_Mind_hasPair := wS 17 (by decide +kernel) rfl
def Y_Mind_firstChange : Yx := (⟨R_Mind, "firstChange", "(LOneTuneNine$Canon;)I"⟩, prog_4_method_8_code, 2, (some Jvm.ClassFile.FieldType.int))
theorem mo_Mind_firstChange : MOK Y_Mind_firstChange 1 := ⟨wA 678 (by decide +kernel) rfl, wA 5 (by decide +kernel) rfl, by decide +kernel, by decide +kernel, by decide⟩
theorem mi_Mind_firstChange : MI Y_Mind_firstChange := wA 676 (by decide +kernel) rfl
theorem mv_Mind_firstChange : MV Y_Mind_firstChange := wA 677 (by decide +kernel) rfl
def Y_Main_better : Yx := (⟨R_Main, "better", "()I"⟩, prog_1_method_19_code, 1, (some Jvm.ClassFile.FieldType.int))
theorem mo_Main_better : MOK Y_Main_better 0 := ⟨wA 682 (by decide +kernel) rfl, wA 1 (by decide +kernel) rfl, by decide +kernel, by decide +kernel, by decide⟩
theorem mi_Main_better : MI Y_Main_better := wA 680 (by decide +kernel) rfl
theorem mv_Main_better : MV Y_Main_better := wA 681 (by decide +kernel) rfl
def Y_Mind_leastIlls : Yx := (⟨R_Mind, "leastIlls", "(LOneTuneNine$Canon;)I"⟩, prog_4_method_5_code, 6, (some Jvm.ClassFile.FieldType.int))
theorem mo_Mind_leastIlls : MOK Y_Mind_leastIlls 1 := ⟨wA 686 (by decide +kernel) rfl, wA 5 (by decide +kernel) rfl, by decide +kernel, by decide +kernel, by decide⟩
theorem mi_Mind_leastIlls : MI Y_Mind_leastIlls := wA 684 (by decide +kernel) rfl
theorem mv_Mind_leastIlls : MV Y_Mind_leastIlls := wA 685 (by decide +kernel) rfl
def Y_Meetings_ills : Yx := (⟨R_Meetings, "ills", "(LOneTuneNine$Canon;)I"⟩, prog_3_method_9_code, 4, (some Jvm.ClassFile.FieldType.int))
theorem mo_Meetings_ills : MOK Y_Meetings_ills 1 := ⟨wA 690 (by decide +kernel) rfl, wA 6 (by decide +kernel) rfl, by decide +kernel, by decide +kernel, by decide⟩
theorem mi_Meetings_ills : MI Y_Meetings_ills := wA 688 (by decide +kernel) rfl
theorem mv_Meetings_ills : MV Y_Meetings_ills := wA 689 (by decide +kernel) rfl
def Y_Main_mirror : Yx := (⟨R_Main, "mirror", "()I"⟩, prog_1_method_20_code, 1, (some Jvm.ClassFile.FieldType.int))
theorem mo_Main_mirror : MOK Y_Main_mirror 0 := ⟨wA 695 (by decide +kernel) rfl, wA 1 (by decide +kernel) rfl, by decide +kernel, by decide +kernel, by decide⟩
theorem mi_Main_mirror : MI Y_Main_mirror := wA 693 (by decide +kernel) rfl
theorem mv_Main_mirror : MV Y_Main_mirror := wA 694 (by decide +kernel) rfl
def Y_Tune_isMirror : Yx := (⟨R_Tune, "isMirror", "()Z"⟩, prog_7_method_11_code, 3, (some Jvm.ClassFile.FieldType.boolean))
theorem mo_Tune_isMirror : MOK Y_Tune_isMirror 0 := ⟨wA 699 (by decide +kernel) rfl, wA 3 (by decide +kernel) rfl, by decide +kernel, by decide +kernel, by decide⟩
theorem mi_Tune_isMirror : MI Y_Tune_isMirror := wA 697 (by decide +kernel) rfl
theorem mv_Tune_isMirror : MV Y_Tune_isMirror := wA 698 (by decide +kernel) rfl
def Y_Tune_plainAt : Yx := (⟨R_Tune, "plainAt", "(I)I"⟩, prog_7_method_8_code, 2, (some Jvm.ClassFile.FieldType.int))
theorem mo_Tune_plainAt : MOK Y_Tune_plainAt 1 := ⟨wA 703 (by decide +kernel) rfl, wA 3 (by decide +kernel) rfl, by decide +kernel, by decide +kernel, by decide⟩
theorem mi_Tune_plainAt : MI Y_Tune_plainAt := wA 701 (by decide +kernel) rfl
theorem mv_Tune_plainAt : MV Y_Tune_plainAt := wA 702 (by decide +kernel) rfl
def Y_Main_agreeing : Yx := (⟨R_Main, "agreeing", "(II)J"⟩, prog_1_method_21_code, 4, (some Jvm.ClassFile.FieldType.long))
theorem mo_Main_agreeing : MOK Y_Main_agreeing 2 := ⟨wA 707 (by decide +kernel) rfl, wA 1 (by decide +kernel) rfl, by decide +kernel, by decide +kernel, by decide⟩
theorem mi_Main_agreeing : MI Y_Main_agreeing := wA 705 (by decide +kernel) rfl
theorem mv_Main_agreeing : MV Y_Main_agreeing := wA 706 (by decide +kernel) rfl
def Y_Walks_tunesAgreeing : Yx := (⟨R_Walks, "tunesAgreeing", "(III)J"⟩, prog_8_method_2_code, 7, (some Jvm.ClassFile.FieldType.long))
theorem mo_Walks_tunesAgreeing : MOK Y_Walks_tunesAgreeing 3 := ⟨wA 714 (by decide +kernel) rfl, wA 7 (by decide +kernel) rfl, by decide +kernel, by decide +kernel, by decide⟩
theorem mi_Walks_tunesAgreeing : MI Y_Walks_tunesAgreeing := wA 712 (by decide +kernel) rfl
theorem mv_Walks_tunesAgreeing : MV Y_Walks_tunesAgreeing := wA 713 (by decide +kernel) rfl
def Y_Walks_chainsOf : Yx := (⟨R_Walks, "chainsOf", "(II)J"⟩, prog_8_method_3_code, 6, (some Jvm.ClassFile.FieldType.long))
theorem mo_Walks_chainsOf : MOK Y_Walks_chainsOf 2 := ⟨wA 718 (by decide +kernel) rfl, wA 7 (by decide +kernel) rfl, by decide +kernel, by decide +kernel, by decide⟩
theorem mi_Walks_chainsOf : MI Y_Walks_chainsOf := wA 717 (by decide +kernel) rfl
theorem mv_Walks_chainsOf : MV Y_Walks_chainsOf := wS 18 (by decide +kernel) rfl
def Y_Walks_lengthen : Yx := (⟨R_Walks, "lengthen", "(I)V"⟩, prog_8_method_4_code, 4, none)
theorem mo_Walks_lengthen : MOK Y_Walks_lengthen 1 := ⟨wA 722 (by decide +kernel) rfl, wA 7 (by decide +kernel) rfl, by decide +kernel, by decide +kernel, by decide⟩
theorem mi_Walks_lengthen : MI Y_Walks_lengthen := wA 721 (by decide +kernel) rfl
theorem mv_Walks_lengthen : MV Y_Walks_lengthen := wS 19 (by decide +kernel) rfl
def Y_Main_range : Yx := (⟨R_Main, "range", "(II)I"⟩, prog_1_method_22_code, 4, (some Jvm.ClassFile.FieldType.int))
theorem mo_Main_range : MOK Y_Main_range 2 := ⟨wA 727 (by decide +kernel) rfl, wA 1 (by decide +kernel) rfl, by decide +kernel, by decide +kernel, by decide⟩
theorem mi_Main_range : MI Y_Main_range := wA 725 (by decide +kernel) rfl
theorem mv_Main_range : MV Y_Main_range := wA 726 (by decide +kernel) rfl
def Y_Canon_farthestSound : Yx := (⟨R_Canon, "farthestSound", "(IZ)I"⟩, prog_2_method_29_code, 7, (some Jvm.ClassFile.FieldType.int))
theorem mo_Canon_farthestSound : MOK Y_Canon_farthestSound 2 := ⟨wA 731 (by decide +kernel) rfl, wA 2 (by decide +kernel) rfl, by decide +kernel, by decide +kernel, by decide⟩
theorem mi_Canon_farthestSound : MI Y_Canon_farthestSound := wA 729 (by decide +kernel) rfl
theorem mv_Canon_farthestSound : MV Y_Canon_farthestSound := wA 730 (by decide +kernel) rfl
def Y_Main_stop : Yx := (⟨R_Main, "stop", "(I)I"⟩, prog_1_method_23_code, 3, (some Jvm.ClassFile.FieldType.int))
theorem mo_Main_stop : MOK Y_Main_stop 1 := ⟨wA 736 (by decide +kernel) rfl, wA 1 (by decide +kernel) rfl, by decide +kernel, by decide +kernel, by decide⟩
theorem mi_Main_stop : MI Y_Main_stop := wA 734 (by decide +kernel) rfl
theorem mv_Main_stop : MV Y_Main_stop := wA 735 (by decide +kernel) rfl
def Y_Canon_stillIfStoppedAt : Yx := (⟨R_Canon, "stillIfStoppedAt", "(I)I"⟩, prog_2_method_30_code, 7, (some Jvm.ClassFile.FieldType.int))
theorem mo_Canon_stillIfStoppedAt : MOK Y_Canon_stillIfStoppedAt 1 := ⟨wA 740 (by decide +kernel) rfl, wA 2 (by decide +kernel) rfl, by decide +kernel, by decide +kernel, by decide⟩
theorem mi_Canon_stillIfStoppedAt : MI Y_Canon_stillIfStoppedAt := wA 738 (by decide +kernel) rfl
theorem mv_Canon_stillIfStoppedAt : MV Y_Canon_stillIfStoppedAt := wA 739 (by decide +kernel) rfl
def Y_Main_unison : Yx := (⟨R_Main, "unison", "()I"⟩, prog_1_method_24_code, 1, (some Jvm.ClassFile.FieldType.int))
theorem mo_Main_unison : MOK Y_Main_unison 0 := ⟨wA 744 (by decide +kernel) rfl, wA 1 (by decide +kernel) rfl, by decide +kernel, by decide +kernel, by decide⟩
theorem mi_Main_unison : MI Y_Main_unison := wA 742 (by decide +kernel) rfl
theorem mv_Main_unison : MV Y_Main_unison := wA 743 (by decide +kernel) rfl
def Y_Canon_unisonBeats : Yx := (⟨R_Canon, "unisonBeats", "()I"⟩, prog_2_method_31_code, 4, (some Jvm.ClassFile.FieldType.int))
theorem mo_Canon_unisonBeats : MOK Y_Canon_unisonBeats 0 := ⟨wA 748 (by decide +kernel) rfl, wA 2 (by decide +kernel) rfl, by decide +kernel, by decide +kernel, by decide⟩
theorem mi_Canon_unisonBeats : MI Y_Canon_unisonBeats := wA 746 (by decide +kernel) rfl
theorem mv_Canon_unisonBeats : MV Y_Canon_unisonBeats := wA 747 (by decide +kernel) rfl
def Y_Canon_isUnison : Yx := (⟨R_Canon, "isUnison", "()Z"⟩, prog_2_method_32_code, 3, (some Jvm.ClassFile.FieldType.boolean))
theorem mo_Canon_isUnison : MOK Y_Canon_isUnison 0 := ⟨wA 752 (by decide +kernel) rfl, wA 2 (by decide +kernel) rfl, by decide +kernel, by decide +kernel, by decide⟩
theorem mi_Canon_isUnison : MI Y_Canon_isUnison := wA 751 (by decide +kernel) rfl
theorem mv_Canon_isUnison : MV Y_Canon_isUnison := wS 20 (by decide +kernel) rfl
def Y_Main_row : Yx := (⟨R_Main, "row", "(I)I"⟩, prog_1_method_25_code, 3, (some Jvm.ClassFile.FieldType.int))
theorem mo_Main_row : MOK Y_Main_row 1 := ⟨wA 756 (by decide +kernel) rfl, wA 1 (by decide +kernel) rfl, by decide +kernel, by decide +kernel, by decide⟩
theorem mi_Main_row : MI Y_Main_row := wA 754 (by decide +kernel) rfl
theorem mv_Main_row : MV Y_Main_row := wA 755 (by decide +kernel) rfl
def Y_Main_who : Yx := (⟨R_Main, "who", "(I)I"⟩, prog_1_method_26_code, 5, (some Jvm.ClassFile.FieldType.int))
theorem mo_Main_who : MOK Y_Main_who 1 := ⟨wA 761 (by decide +kernel) rfl, wA 1 (by decide +kernel) rfl, by decide +kernel, by decide +kernel, by decide⟩
theorem mi_Main_who : MI Y_Main_who := wA 759 (by decide +kernel) rfl
theorem mv_Main_who : MV Y_Main_who := wA 760 (by decide +kernel) rfl
def Y_Canon_firstNotHeard : Yx := (⟨R_Canon, "firstNotHeard", "(IILOneTuneNine$Row;)I"⟩, prog_2_method_33_code, 7, (some Jvm.ClassFile.FieldType.int))
theorem mo_Canon_firstNotHeard : MOK Y_Canon_firstNotHeard 3 := ⟨wA 766 (by decide +kernel) rfl, wA 2 (by decide +kernel) rfl, by decide +kernel, by decide +kernel, by decide⟩
theorem mi_Canon_firstNotHeard : MI Y_Canon_firstNotHeard := wA 764 (by decide +kernel) rfl
theorem mv_Canon_firstNotHeard : MV Y_Canon_firstNotHeard := wA 765 (by decide +kernel) rfl
def Y_Main_judge : Yx := (⟨R_Main, "judge", "(II)I"⟩, prog_1_method_27_code, 5, (some Jvm.ClassFile.FieldType.int))
theorem mo_Main_judge : MOK Y_Main_judge 2 := ⟨wA 770 (by decide +kernel) rfl, wA 1 (by decide +kernel) rfl, by decide +kernel, by decide +kernel, by decide⟩
theorem mi_Main_judge : MI Y_Main_judge := wA 768 (by decide +kernel) rfl
theorem mv_Main_judge : MV Y_Main_judge := wA 769 (by decide +kernel) rfl
def Y_Main_seeds : Yx := (⟨R_Main, "seeds", "(II)I"⟩, prog_1_method_28_code, 4, (some Jvm.ClassFile.FieldType.int))
theorem mo_Main_seeds : MOK Y_Main_seeds 2 := ⟨wA 775 (by decide +kernel) rfl, wA 1 (by decide +kernel) rfl, by decide +kernel, by decide +kernel, by decide⟩
theorem mi_Main_seeds : MI Y_Main_seeds := wA 773 (by decide +kernel) rfl
theorem mv_Main_seeds : MV Y_Main_seeds := wA 774 (by decide +kernel) rfl
def Y_Mind_wellDraws : Yx := (⟨R_Mind, "wellDraws", "(LOneTuneNine$Canon;II)I"⟩, prog_4_method_6_code, 8, (some Jvm.ClassFile.FieldType.int))
theorem mo_Mind_wellDraws : MOK Y_Mind_wellDraws 3 := ⟨wA 779 (by decide +kernel) rfl, wA 5 (by decide +kernel) rfl, by decide +kernel, by decide +kernel, by decide⟩
theorem mi_Mind_wellDraws : MI Y_Mind_wellDraws := wA 777 (by decide +kernel) rfl
theorem mv_Mind_wellDraws : MV Y_Mind_wellDraws := wA 778 (by decide +kernel) rfl
def Y_Main_image : Yx := (⟨R_Main, "image", "()I"⟩, prog_1_method_29_code, 1, (some Jvm.ClassFile.FieldType.int))
theorem mo_Main_image : MOK Y_Main_image 0 := ⟨wA 786 (by decide +kernel) rfl, wA 1 (by decide +kernel) rfl, by decide +kernel, by decide +kernel, by decide⟩
theorem mi_Main_image : MI Y_Main_image := wA 784 (by decide +kernel) rfl
theorem mv_Main_image : MV Y_Main_image := wA 785 (by decide +kernel) rfl
def Y_Main_on : Yx := (⟨R_Main, "on", "()I"⟩, prog_1_method_30_code, 1, (some Jvm.ClassFile.FieldType.int))
theorem mo_Main_on : MOK Y_Main_on 0 := ⟨wA 791 (by decide +kernel) rfl, wA 1 (by decide +kernel) rfl, by decide +kernel, by decide +kernel, by decide⟩
theorem mi_Main_on : MI Y_Main_on := wA 789 (by decide +kernel) rfl
theorem mv_Main_on : MV Y_Main_on := wA 790 (by decide +kernel) rfl
def Y_Main_count : Yx := (⟨R_Main, "count", "(I)I"⟩, prog_1_method_31_code, 2, (some Jvm.ClassFile.FieldType.int))
theorem mo_Main_count : MOK Y_Main_count 1 := ⟨wA 795 (by decide +kernel) rfl, wA 1 (by decide +kernel) rfl, by decide +kernel, by decide +kernel, by decide⟩
theorem mi_Main_count : MI Y_Main_count := wA 793 (by decide +kernel) rfl
theorem mv_Main_count : MV Y_Main_count := wA 794 (by decide +kernel) rfl
def Y_Model_init : Yx := (⟨R_Model, "<init>", "()V"⟩, prog_10_method_2_code, 1, none)
theorem mo_Model_init : MOK Y_Model_init 0 := ⟨wA 801 (by decide +kernel) rfl, wA 9 (by decide +kernel) rfl, by decide +kernel, by decide +kernel, by decide⟩
theorem mi_Model_init : MI Y_Model_init := wA 800 (by decide +kernel) rfl
def Y_Model_image : Yx := (⟨R_Model, "image", "()I"⟩, prog_10_method_4_code, 1, (some Jvm.ClassFile.FieldType.int))
theorem mo_Model_image : MOK Y_Model_image 0 := ⟨wA 859 (by decide +kernel) rfl, wA 9 (by decide +kernel) rfl, by decide +kernel, by decide +kernel, by decide⟩
theorem mi_Model_image : MI Y_Model_image := wA 857 (by decide +kernel) rfl
theorem mv_Model_image : MV Y_Model_image := wA 858 (by decide +kernel) rfl
def Y_Model_move : Yx := (⟨R_Model, "move", "([I[I)V"⟩, prog_10_method_3_code, 3, none)
theorem mo_Model_move : MOK Y_Model_move 2 := ⟨wA 862 (by decide +kernel) rfl, wA 9 (by decide +kernel) rfl, by decide +kernel, by decide +kernel, by decide⟩
theorem ms_Model_move : MS Y_Model_move := wA 861 (by decide +kernel) rfl
def Y_Model_on : Yx := (⟨R_Model, "on", "()I"⟩, prog_10_method_5_code, 1, (some Jvm.ClassFile.FieldType.int))
theorem mo_Model_on : MOK Y_Model_on 0 := ⟨wA 866 (by decide +kernel) rfl, wA 9 (by decide +kernel) rfl, by decide +kernel, by decide +kernel, by decide⟩
theorem mi_Model_on : MI Y_Model_on := wA 864 (by decide +kernel) rfl
theorem mv_Model_on : MV Y_Model_on := wA 865 (by decide +kernel) rfl
def Y_Model_no : Yx := (⟨R_Model, "no", "(I)I"⟩, prog_10_method_1_code, 2, (some Jvm.ClassFile.FieldType.int))
theorem mo_Model_no : MOK Y_Model_no 1 := ⟨wA 870 (by decide +kernel) rfl, wA 9 (by decide +kernel) rfl, by decide +kernel, by decide +kernel, by decide⟩
theorem mi_Model_no : MI Y_Model_no := wA 869 (by decide +kernel) rfl
theorem mv_Model_no : MV Y_Model_no := wS 21 (by decide +kernel) rfl
def Y_Model_letter : Yx := (⟨R_Model, "letter", "(I)I"⟩, prog_10_method_6_code, 2, (some Jvm.ClassFile.FieldType.int))
theorem mo_Model_letter : MOK Y_Model_letter 1 := ⟨wA 874 (by decide +kernel) rfl, wA 9 (by decide +kernel) rfl, by decide +kernel, by decide +kernel, by decide⟩
theorem mi_Model_letter : MI Y_Model_letter := wA 872 (by decide +kernel) rfl
theorem mv_Model_letter : MV Y_Model_letter := wA 873 (by decide +kernel) rfl
def Y_Model_canon : Yx := (⟨R_Model, "canon", "()I"⟩, prog_10_method_14_code, 2, (some Jvm.ClassFile.FieldType.int))
theorem mo_Model_canon : MOK Y_Model_canon 0 := ⟨wA 878 (by decide +kernel) rfl, wA 9 (by decide +kernel) rfl, by decide +kernel, by decide +kernel, by decide⟩
theorem mi_Model_canon : MI Y_Model_canon := wA 876 (by decide +kernel) rfl
theorem mv_Model_canon : MV Y_Model_canon := wA 877 (by decide +kernel) rfl
def Y_Model_read : Yx := (⟨R_Model, "read", "()I"⟩, prog_10_method_13_code, 5, (some Jvm.ClassFile.FieldType.int))
theorem mo_Model_read : MOK Y_Model_read 0 := ⟨wA 882 (by decide +kernel) rfl, wA 9 (by decide +kernel) rfl, by decide +kernel, by decide +kernel, by decide⟩
theorem mi_Model_read : MI Y_Model_read := wA 881 (by decide +kernel) rfl
theorem mv_Model_read : MV Y_Model_read := wS 22 (by decide +kernel) rfl
def Y_Model_statement : Yx := (⟨R_Model, "statement", "()V"⟩, prog_10_method_10_code, 1, none)
theorem mo_Model_statement : MOK Y_Model_statement 0 := ⟨wA 886 (by decide +kernel) rfl, wA 9 (by decide +kernel) rfl, by decide +kernel, by decide +kernel, by decide⟩
theorem mi_Model_statement : MI Y_Model_statement := wA 885 (by decide +kernel) rfl
theorem mv_Model_statement : MV Y_Model_statement := wS 23 (by decide +kernel) rfl
def Y_Model_oneOf : Yx := (⟨R_Model, "oneOf", "([C)I"⟩, prog_10_method_8_code, 4, (some Jvm.ClassFile.FieldType.int))
theorem mo_Model_oneOf : MOK Y_Model_oneOf 1 := ⟨wA 890 (by decide +kernel) rfl, wA 9 (by decide +kernel) rfl, by decide +kernel, by decide +kernel, by decide⟩
theorem mi_Model_oneOf : MI Y_Model_oneOf := wA 889 (by decide +kernel) rfl
theorem mv_Model_oneOf : MV Y_Model_oneOf := wS 24 (by decide +kernel) rfl
def Y_Model_figures : Yx := (⟨R_Model, "figures", "(I)I"⟩, prog_10_method_9_code, 4, (some Jvm.ClassFile.FieldType.int))
theorem mo_Model_figures : MOK Y_Model_figures 1 := ⟨wA 894 (by decide +kernel) rfl, wA 9 (by decide +kernel) rfl, by decide +kernel, by decide +kernel, by decide⟩
theorem mi_Model_figures : MI Y_Model_figures := wA 893 (by decide +kernel) rfl
theorem mv_Model_figures : MV Y_Model_figures := wS 25 (by decide +kernel) rfl
def Y_Model_expect : Yx := (⟨R_Model, "expect", "(C)V"⟩, prog_10_method_7_code, 2, none)
theorem mo_Model_expect : MOK Y_Model_expect 1 := ⟨wA 898 (by decide +kernel) rfl, wA 9 (by decide +kernel) rfl, by decide +kernel, by decide +kernel, by decide⟩
theorem mi_Model_expect : MI Y_Model_expect := wA 897 (by decide +kernel) rfl
theorem mv_Model_expect : MV Y_Model_expect := wS 26 (by decide +kernel) rfl
def Y_Model_isAsItMustBe : Yx := (⟨R_Model, "isAsItMustBe", "(II)Z"⟩, prog_10_method_11_code, 3, (some Jvm.ClassFile.FieldType.boolean))
theorem mo_Model_isAsItMustBe : MOK Y_Model_isAsItMustBe 2 := ⟨wA 902 (by decide +kernel) rfl, wA 9 (by decide +kernel) rfl, by decide +kernel, by decide +kernel, by decide⟩
theorem mi_Model_isAsItMustBe : MI Y_Model_isAsItMustBe := wA 901 (by decide +kernel) rfl
theorem mv_Model_isAsItMustBe : MV Y_Model_isAsItMustBe := wS 27 (by decide +kernel) rfl
def Y_Model_come : Yx := (⟨R_Model, "come", "()V"⟩, prog_10_method_12_code, 1, none)
theorem mo_Model_come : MOK Y_Model_come 0 := ⟨wA 906 (by decide +kernel) rfl, wA 9 (by decide +kernel) rfl, by decide +kernel, by decide +kernel, by decide⟩
theorem mi_Model_come : MI Y_Model_come := wA 905 (by decide +kernel) rfl
theorem mv_Model_come : MV Y_Model_come := wS 28 (by decide +kernel) rfl
def Y_Model_note : Yx := (⟨R_Model, "note", "(II)I"⟩, prog_10_method_30_code, 3, (some Jvm.ClassFile.FieldType.int))
theorem mo_Model_note : MOK Y_Model_note 2 := ⟨wA 910 (by decide +kernel) rfl, wA 9 (by decide +kernel) rfl, by decide +kernel, by decide +kernel, by decide⟩
theorem mi_Model_note : MI Y_Model_note := wA 908 (by decide +kernel) rfl
theorem mv_Model_note : MV Y_Model_note := wA 909 (by decide +kernel) rfl
def Y_Model_isNoNote : Yx := (⟨R_Model, "isNoNote", "(I)Z"⟩, prog_10_method_28_code, 2, (some Jvm.ClassFile.FieldType.boolean))
theorem mo_Model_isNoNote : MOK Y_Model_isNoNote 1 := ⟨wA 914 (by decide +kernel) rfl, wA 9 (by decide +kernel) rfl, by decide +kernel, by decide +kernel, by decide⟩
theorem mi_Model_isNoNote : MI Y_Model_isNoNote := wA 913 (by decide +kernel) rfl
theorem mv_Model_isNoNote : MV Y_Model_isNoNote := wS 29 (by decide +kernel) rfl
def Y_Model_firstBeat : Yx := (⟨R_Model, "firstBeat", "(I)I"⟩, prog_10_method_15_code, 4, (some Jvm.ClassFile.FieldType.int))
theorem mo_Model_firstBeat : MOK Y_Model_firstBeat 1 := ⟨wA 918 (by decide +kernel) rfl, wA 9 (by decide +kernel) rfl, by decide +kernel, by decide +kernel, by decide⟩
theorem mi_Model_firstBeat : MI Y_Model_firstBeat := wA 917 (by decide +kernel) rfl
theorem mv_Model_firstBeat : MV Y_Model_firstBeat := wS 30 (by decide +kernel) rfl
def Y_Model_voice : Yx := (⟨R_Model, "voice", "(II)I"⟩, prog_10_method_31_code, 3, (some Jvm.ClassFile.FieldType.int))
theorem mo_Model_voice : MOK Y_Model_voice 2 := ⟨wA 922 (by decide +kernel) rfl, wA 9 (by decide +kernel) rfl, by decide +kernel, by decide +kernel, by decide⟩
theorem mi_Model_voice : MI Y_Model_voice := wA 920 (by decide +kernel) rfl
theorem mv_Model_voice : MV Y_Model_voice := wA 921 (by decide +kernel) rfl
def Y_Model_isNoVoice : Yx := (⟨R_Model, "isNoVoice", "(I)Z"⟩, prog_10_method_29_code, 2, (some Jvm.ClassFile.FieldType.boolean))
theorem mo_Model_isNoVoice : MOK Y_Model_isNoVoice 1 := ⟨wA 926 (by decide +kernel) rfl, wA 9 (by decide +kernel) rfl, by decide +kernel, by decide +kernel, by decide⟩
theorem mi_Model_isNoVoice : MI Y_Model_isNoVoice := wA 925 (by decide +kernel) rfl
theorem mv_Model_isNoVoice : MV Y_Model_isNoVoice := wS 31 (by decide +kernel) rfl
def Y_Model_roundOf : Yx := (⟨R_Model, "roundOf", "(I)I"⟩, prog_10_method_18_code, 2, (some Jvm.ClassFile.FieldType.int))
theorem mo_Model_roundOf : MOK Y_Model_roundOf 1 := ⟨wA 930 (by decide +kernel) rfl, wA 9 (by decide +kernel) rfl, by decide +kernel, by decide +kernel, by decide⟩
theorem mi_Model_roundOf : MI Y_Model_roundOf := wA 929 (by decide +kernel) rfl
theorem mv_Model_roundOf : MV Y_Model_roundOf := wS 32 (by decide +kernel) rfl
def Y_Model_beats : Yx := (⟨R_Model, "beats", "()I"⟩, prog_10_method_16_code, 1, (some Jvm.ClassFile.FieldType.int))
theorem mo_Model_beats : MOK Y_Model_beats 0 := ⟨wA 934 (by decide +kernel) rfl, wA 9 (by decide +kernel) rfl, by decide +kernel, by decide +kernel, by decide⟩
theorem mi_Model_beats : MI Y_Model_beats := wA 933 (by decide +kernel) rfl
theorem mv_Model_beats : MV Y_Model_beats := wS 33 (by decide +kernel) rfl
def Y_Model_endOf : Yx := (⟨R_Model, "endOf", "(I)I"⟩, prog_10_method_22_code, 2, (some Jvm.ClassFile.FieldType.int))
theorem mo_Model_endOf : MOK Y_Model_endOf 1 := ⟨wA 938 (by decide +kernel) rfl, wA 9 (by decide +kernel) rfl, by decide +kernel, by decide +kernel, by decide⟩
theorem mi_Model_endOf : MI Y_Model_endOf := wA 937 (by decide +kernel) rfl
theorem mv_Model_endOf : MV Y_Model_endOf := wS 34 (by decide +kernel) rfl
def Y_Model_pitch : Yx := (⟨R_Model, "pitch", "(II)I"⟩, prog_10_method_33_code, 3, (some Jvm.ClassFile.FieldType.int))
theorem mo_Model_pitch : MOK Y_Model_pitch 2 := ⟨wA 942 (by decide +kernel) rfl, wA 9 (by decide +kernel) rfl, by decide +kernel, by decide +kernel, by decide⟩
theorem mi_Model_pitch : MI Y_Model_pitch := wA 940 (by decide +kernel) rfl
theorem mv_Model_pitch : MV Y_Model_pitch := wA 941 (by decide +kernel) rfl
def Y_Model_become : Yx := (⟨R_Model, "become", "(IIII)I"⟩, prog_10_method_32_code, 6, (some Jvm.ClassFile.FieldType.int))
theorem mo_Model_become : MOK Y_Model_become 4 := ⟨wA 946 (by decide +kernel) rfl, wA 9 (by decide +kernel) rfl, by decide +kernel, by decide +kernel, by decide⟩
theorem mi_Model_become : MI Y_Model_become := wA 945 (by decide +kernel) rfl
theorem mv_Model_become : MV Y_Model_become := wS 35 (by decide +kernel) rfl
def Y_Model_enter : Yx := (⟨R_Model, "enter", "(II)I"⟩, prog_10_method_34_code, 3, (some Jvm.ClassFile.FieldType.int))
theorem mo_Model_enter : MOK Y_Model_enter 2 := ⟨wA 950 (by decide +kernel) rfl, wA 9 (by decide +kernel) rfl, by decide +kernel, by decide +kernel, by decide⟩
theorem mi_Model_enter : MI Y_Model_enter := wA 948 (by decide +kernel) rfl
theorem mv_Model_enter : MV Y_Model_enter := wA 949 (by decide +kernel) rfl
def Y_Model_rounds : Yx := (⟨R_Model, "rounds", "(I)I"⟩, prog_10_method_35_code, 2, (some Jvm.ClassFile.FieldType.int))
theorem mo_Model_rounds : MOK Y_Model_rounds 1 := ⟨wA 954 (by decide +kernel) rfl, wA 9 (by decide +kernel) rfl, by decide +kernel, by decide +kernel, by decide⟩
theorem mi_Model_rounds : MI Y_Model_rounds := wA 952 (by decide +kernel) rfl
theorem mv_Model_rounds : MV Y_Model_rounds := wA 953 (by decide +kernel) rfl
def Y_Model_step : Yx := (⟨R_Model, "step", "(I)I"⟩, prog_10_method_36_code, 2, (some Jvm.ClassFile.FieldType.int))
theorem mo_Model_step : MOK Y_Model_step 1 := ⟨wA 958 (by decide +kernel) rfl, wA 9 (by decide +kernel) rfl, by decide +kernel, by decide +kernel, by decide⟩
theorem mi_Model_step : MI Y_Model_step := wA 956 (by decide +kernel) rfl
theorem mv_Model_step : MV Y_Model_step := wA 957 (by decide +kernel) rfl
def Y_Model_law : Yx := (⟨R_Model, "law", "(I)I"⟩, prog_10_method_37_code, 2, (some Jvm.ClassFile.FieldType.int))
theorem mo_Model_law : MOK Y_Model_law 1 := ⟨wA 962 (by decide +kernel) rfl, wA 9 (by decide +kernel) rfl, by decide +kernel, by decide +kernel, by decide⟩
theorem mi_Model_law : MI Y_Model_law := wA 960 (by decide +kernel) rfl
theorem mv_Model_law : MV Y_Model_law := wA 961 (by decide +kernel) rfl
def Y_Model_sound : Yx := (⟨R_Model, "sound", "(II)I"⟩, prog_10_method_39_code, 3, (some Jvm.ClassFile.FieldType.int))
theorem mo_Model_sound : MOK Y_Model_sound 2 := ⟨wA 966 (by decide +kernel) rfl, wA 9 (by decide +kernel) rfl, by decide +kernel, by decide +kernel, by decide⟩
theorem mi_Model_sound : MI Y_Model_sound := wA 964 (by decide +kernel) rfl
theorem mv_Model_sound : MV Y_Model_sound := wA 965 (by decide +kernel) rfl
def Y_Model_isWrong : Yx := (⟨R_Model, "isWrong", "(III)I"⟩, prog_10_method_38_code, 3, (some Jvm.ClassFile.FieldType.int))
theorem mo_Model_isWrong : MOK Y_Model_isWrong 3 := ⟨wA 970 (by decide +kernel) rfl, wA 9 (by decide +kernel) rfl, by decide +kernel, by decide +kernel, by decide⟩
theorem ms_Model_isWrong : MS Y_Model_isWrong := wA 969 (by decide +kernel) rfl
def Y_Model_soundAt : Yx := (⟨R_Model, "soundAt", "(II)I"⟩, prog_10_method_21_code, 3, (some Jvm.ClassFile.FieldType.int))
theorem mo_Model_soundAt : MOK Y_Model_soundAt 2 := ⟨wA 974 (by decide +kernel) rfl, wA 9 (by decide +kernel) rfl, by decide +kernel, by decide +kernel, by decide⟩
theorem mi_Model_soundAt : MI Y_Model_soundAt := wA 973 (by decide +kernel) rfl
theorem mv_Model_soundAt : MV Y_Model_soundAt := wS 36 (by decide +kernel) rfl
def Y_Model_soundOf : Yx := (⟨R_Model, "soundOf", "(IIII)I"⟩, prog_10_method_20_code, 6, (some Jvm.ClassFile.FieldType.int))
theorem mo_Model_soundOf : MOK Y_Model_soundOf 4 := ⟨wA 978 (by decide +kernel) rfl, wA 9 (by decide +kernel) rfl, by decide +kernel, by decide +kernel, by decide⟩
theorem mi_Model_soundOf : MI Y_Model_soundOf := wA 977 (by decide +kernel) rfl
theorem mv_Model_soundOf : MV Y_Model_soundOf := wS 37 (by decide +kernel) rfl
def Y_Model_said : Yx := (⟨R_Model, "said", "(II)I"⟩, prog_10_method_19_code, 5, (some Jvm.ClassFile.FieldType.int))
theorem mo_Model_said : MOK Y_Model_said 2 := ⟨wA 982 (by decide +kernel) rfl, wA 9 (by decide +kernel) rfl, by decide +kernel, by decide +kernel, by decide⟩
theorem mi_Model_said : MI Y_Model_said := wA 981 (by decide +kernel) rfl
theorem mv_Model_said : MV Y_Model_said := wS 38 (by decide +kernel) rfl
def Y_Model_plain : Yx := (⟨R_Model, "plain", "(I)I"⟩, prog_10_method_17_code, 4, (some Jvm.ClassFile.FieldType.int))
theorem mo_Model_plain : MOK Y_Model_plain 1 := ⟨wA 986 (by decide +kernel) rfl, wA 9 (by decide +kernel) rfl, by decide +kernel, by decide +kernel, by decide⟩
theorem mi_Model_plain : MI Y_Model_plain := wA 985 (by decide +kernel) rfl
theorem mv_Model_plain : MV Y_Model_plain := wS 39 (by decide +kernel) rfl
def Y_Model_ill : Yx := (⟨R_Model, "ill", "(I)I"⟩, prog_10_method_40_code, 2, (some Jvm.ClassFile.FieldType.int))
theorem mo_Model_ill : MOK Y_Model_ill 1 := ⟨wA 990 (by decide +kernel) rfl, wA 9 (by decide +kernel) rfl, by decide +kernel, by decide +kernel, by decide⟩
theorem mi_Model_ill : MI Y_Model_ill := wA 988 (by decide +kernel) rfl
theorem mv_Model_ill : MV Y_Model_ill := wA 989 (by decide +kernel) rfl
def Y_Model_illAt : Yx := (⟨R_Model, "illAt", "(II)I"⟩, prog_10_method_25_code, 6, (some Jvm.ClassFile.FieldType.int))
theorem mo_Model_illAt : MOK Y_Model_illAt 2 := ⟨wA 994 (by decide +kernel) rfl, wA 9 (by decide +kernel) rfl, by decide +kernel, by decide +kernel, by decide⟩
theorem mi_Model_illAt : MI Y_Model_illAt := wA 993 (by decide +kernel) rfl
theorem mv_Model_illAt : MV Y_Model_illAt := wS 40 (by decide +kernel) rfl
def Y_Model_agree : Yx := (⟨R_Model, "agree", "(II)Z"⟩, prog_10_method_24_code, 3, (some Jvm.ClassFile.FieldType.boolean))
theorem mo_Model_agree : MOK Y_Model_agree 2 := ⟨wA 998 (by decide +kernel) rfl, wA 9 (by decide +kernel) rfl, by decide +kernel, by decide +kernel, by decide⟩
theorem mi_Model_agree : MI Y_Model_agree := wA 997 (by decide +kernel) rfl
theorem mv_Model_agree : MV Y_Model_agree := wS 41 (by decide +kernel) rfl
def Y_Model_first : Yx := (⟨R_Model, "first", "(I)I"⟩, prog_10_method_41_code, 4, (some Jvm.ClassFile.FieldType.int))
theorem mo_Model_first : MOK Y_Model_first 1 := ⟨wA 1003 (by decide +kernel) rfl, wA 9 (by decide +kernel) rfl, by decide +kernel, by decide +kernel, by decide⟩
theorem mi_Model_first : MI Y_Model_first := wA 1001 (by decide +kernel) rfl
theorem mv_Model_first : MV Y_Model_first := wA 1002 (by decide +kernel) rfl
def Y_Model_end : Yx := (⟨R_Model, "end", "()I"⟩, prog_10_method_23_code, 3, (some Jvm.ClassFile.FieldType.int))
theorem mo_Model_end : MOK Y_Model_end 0 := ⟨wA 1007 (by decide +kernel) rfl, wA 9 (by decide +kernel) rfl, by decide +kernel, by decide +kernel, by decide⟩
theorem mi_Model_end : MI Y_Model_end := wA 1006 (by decide +kernel) rfl
theorem mv_Model_end : MV Y_Model_end := wS 42 (by decide +kernel) rfl
def Y_Model_allIll : Yx := (⟨R_Model, "allIll", "()I"⟩, prog_10_method_42_code, 1, (some Jvm.ClassFile.FieldType.int))
theorem mo_Model_allIll : MOK Y_Model_allIll 0 := ⟨wA 1012 (by decide +kernel) rfl, wA 9 (by decide +kernel) rfl, by decide +kernel, by decide +kernel, by decide⟩
theorem mi_Model_allIll : MI Y_Model_allIll := wA 1010 (by decide +kernel) rfl
theorem mv_Model_allIll : MV Y_Model_allIll := wA 1011 (by decide +kernel) rfl
def Y_Model_illAll : Yx := (⟨R_Model, "illAll", "(I)I"⟩, prog_10_method_26_code, 5, (some Jvm.ClassFile.FieldType.int))
theorem mo_Model_illAll : MOK Y_Model_illAll 1 := ⟨wA 1016 (by decide +kernel) rfl, wA 9 (by decide +kernel) rfl, by decide +kernel, by decide +kernel, by decide⟩
theorem mi_Model_illAll : MI Y_Model_illAll := wA 1015 (by decide +kernel) rfl
theorem mv_Model_illAll : MV Y_Model_illAll := wS 43 (by decide +kernel) rfl
def Y_Model_entries : Yx := (⟨R_Model, "entries", "(II)I"⟩, prog_10_method_44_code, 5, (some Jvm.ClassFile.FieldType.int))
theorem mo_Model_entries : MOK Y_Model_entries 2 := ⟨wA 1020 (by decide +kernel) rfl, wA 9 (by decide +kernel) rfl, by decide +kernel, by decide +kernel, by decide⟩
theorem mi_Model_entries : MI Y_Model_entries := wA 1018 (by decide +kernel) rfl
theorem mv_Model_entries : MV Y_Model_entries := wA 1019 (by decide +kernel) rfl
def Y_Model_fitsAll : Yx := (⟨R_Model, "fitsAll", "(III)Z"⟩, prog_10_method_43_code, 8, (some Jvm.ClassFile.FieldType.boolean))
theorem mo_Model_fitsAll : MOK Y_Model_fitsAll 3 := ⟨wA 1024 (by decide +kernel) rfl, wA 9 (by decide +kernel) rfl, by decide +kernel, by decide +kernel, by decide⟩
theorem mi_Model_fitsAll : MI Y_Model_fitsAll := wA 1023 (by decide +kernel) rfl
theorem mv_Model_fitsAll : MV Y_Model_fitsAll := wS 44 (by decide +kernel) rfl
def Y_Model_added : Yx := (⟨R_Model, "added", "()I"⟩, prog_10_method_45_code, 6, (some Jvm.ClassFile.FieldType.int))
theorem mo_Model_added : MOK Y_Model_added 0 := ⟨wA 1028 (by decide +kernel) rfl, wA 9 (by decide +kernel) rfl, by decide +kernel, by decide +kernel, by decide⟩
theorem mi_Model_added : MI Y_Model_added := wA 1026 (by decide +kernel) rfl
theorem mv_Model_added : MV Y_Model_added := wA 1027 (by decide +kernel) rfl
def Y_Model_isWell : Yx := (⟨R_Model, "isWell", "()Z"⟩, prog_10_method_27_code, 3, (some Jvm.ClassFile.FieldType.boolean))
theorem mo_Model_isWell : MOK Y_Model_isWell 0 := ⟨wA 1032 (by decide +kernel) rfl, wA 9 (by decide +kernel) rfl, by decide +kernel, by decide +kernel, by decide⟩
theorem mi_Model_isWell : MI Y_Model_isWell := wA 1031 (by decide +kernel) rfl
theorem mv_Model_isWell : MV Y_Model_isWell := wS 45 (by decide +kernel) rfl
def Y_Model_silent : Yx := (⟨R_Model, "silent", "()I"⟩, prog_10_method_46_code, 3, (some Jvm.ClassFile.FieldType.int))
theorem mo_Model_silent : MOK Y_Model_silent 0 := ⟨wA 1036 (by decide +kernel) rfl, wA 9 (by decide +kernel) rfl, by decide +kernel, by decide +kernel, by decide⟩
theorem mi_Model_silent : MI Y_Model_silent := wA 1034 (by decide +kernel) rfl
theorem mv_Model_silent : MV Y_Model_silent := wA 1035 (by decide +kernel) rfl
def Y_Model_changed : Yx := (⟨R_Model, "changed", "(I)I"⟩, prog_10_method_49_code, 3, (some Jvm.ClassFile.FieldType.int))
theorem mo_Model_changed : MOK Y_Model_changed 1 := ⟨wA 1040 (by decide +kernel) rfl, wA 9 (by decide +kernel) rfl, by decide +kernel, by decide +kernel, by decide⟩
theorem mi_Model_changed : MI Y_Model_changed := wA 1038 (by decide +kernel) rfl
theorem mv_Model_changed : MV Y_Model_changed := wA 1039 (by decide +kernel) rfl
def Y_Model_oneChange : Yx := (⟨R_Model, "oneChange", "()I"⟩, prog_10_method_47_code, 4, (some Jvm.ClassFile.FieldType.int))
theorem mo_Model_oneChange : MOK Y_Model_oneChange 0 := ⟨wA 1044 (by decide +kernel) rfl, wA 9 (by decide +kernel) rfl, by decide +kernel, by decide +kernel, by decide⟩
theorem mi_Model_oneChange : MI Y_Model_oneChange := wA 1043 (by decide +kernel) rfl
theorem mv_Model_oneChange : MV Y_Model_oneChange := wS 46 (by decide +kernel) rfl
def Y_Model_isTwoChanges : Yx := (⟨R_Model, "isTwoChanges", "()Z"⟩, prog_10_method_48_code, 4, (some Jvm.ClassFile.FieldType.boolean))
theorem mo_Model_isTwoChanges : MOK Y_Model_isTwoChanges 0 := ⟨wA 1048 (by decide +kernel) rfl, wA 9 (by decide +kernel) rfl, by decide +kernel, by decide +kernel, by decide⟩
theorem mi_Model_isTwoChanges : MI Y_Model_isTwoChanges := wA 1047 (by decide +kernel) rfl
theorem mv_Model_isTwoChanges : MV Y_Model_isTwoChanges := wS 47 (by decide +kernel) rfl
def Y_Model_better : Yx := (⟨R_Model, "better", "()I"⟩, prog_10_method_50_code, 5, (some Jvm.ClassFile.FieldType.int))
theorem mo_Model_better : MOK Y_Model_better 0 := ⟨wA 1052 (by decide +kernel) rfl, wA 9 (by decide +kernel) rfl, by decide +kernel, by decide +kernel, by decide⟩
theorem mi_Model_better : MI Y_Model_better := wA 1050 (by decide +kernel) rfl
theorem mv_Model_better : MV Y_Model_better := wA 1051 (by decide +kernel) rfl
def Y_Model_mirror : Yx := (⟨R_Model, "mirror", "()I"⟩, prog_10_method_51_code, 3, (some Jvm.ClassFile.FieldType.int))
theorem mo_Model_mirror : MOK Y_Model_mirror 0 := ⟨wA 1057 (by decide +kernel) rfl, wA 9 (by decide +kernel) rfl, by decide +kernel, by decide +kernel, by decide⟩
theorem mi_Model_mirror : MI Y_Model_mirror := wA 1055 (by decide +kernel) rfl
theorem mv_Model_mirror : MV Y_Model_mirror := wA 1056 (by decide +kernel) rfl
def Y_Model_agreeing : Yx := (⟨R_Model, "agreeing", "(II)J"⟩, prog_10_method_53_code, 6, (some Jvm.ClassFile.FieldType.long))
theorem mo_Model_agreeing : MOK Y_Model_agreeing 2 := ⟨wA 1061 (by decide +kernel) rfl, wA 9 (by decide +kernel) rfl, by decide +kernel, by decide +kernel, by decide⟩
theorem mi_Model_agreeing : MI Y_Model_agreeing := wA 1059 (by decide +kernel) rfl
theorem mv_Model_agreeing : MV Y_Model_agreeing := wA 1060 (by decide +kernel) rfl
def Y_Model_chains : Yx := (⟨R_Model, "chains", "(I)J"⟩, prog_10_method_52_code, 7, (some Jvm.ClassFile.FieldType.long))
theorem mo_Model_chains : MOK Y_Model_chains 1 := ⟨wA 1066 (by decide +kernel) rfl, wA 9 (by decide +kernel) rfl, by decide +kernel, by decide +kernel, by decide⟩
theorem mi_Model_chains : MI Y_Model_chains := wA 1065 (by decide +kernel) rfl
theorem mv_Model_chains : MV Y_Model_chains := wS 48 (by decide +kernel) rfl
def Y_Model_range : Yx := (⟨R_Model, "range", "(II)I"⟩, prog_10_method_54_code, 7, (some Jvm.ClassFile.FieldType.int))
theorem mo_Model_range : MOK Y_Model_range 2 := ⟨wA 1070 (by decide +kernel) rfl, wA 9 (by decide +kernel) rfl, by decide +kernel, by decide +kernel, by decide⟩
theorem mi_Model_range : MI Y_Model_range := wA 1068 (by decide +kernel) rfl
theorem mv_Model_range : MV Y_Model_range := wA 1069 (by decide +kernel) rfl
def Y_Model_stop : Yx := (⟨R_Model, "stop", "(I)I"⟩, prog_10_method_55_code, 6, (some Jvm.ClassFile.FieldType.int))
theorem mo_Model_stop : MOK Y_Model_stop 1 := ⟨wA 1074 (by decide +kernel) rfl, wA 9 (by decide +kernel) rfl, by decide +kernel, by decide +kernel, by decide⟩
theorem mi_Model_stop : MI Y_Model_stop := wA 1072 (by decide +kernel) rfl
theorem mv_Model_stop : MV Y_Model_stop := wA 1073 (by decide +kernel) rfl
def Y_Model_unison : Yx := (⟨R_Model, "unison", "()I"⟩, prog_10_method_56_code, 8, (some Jvm.ClassFile.FieldType.int))
theorem mo_Model_unison : MOK Y_Model_unison 0 := ⟨wA 1078 (by decide +kernel) rfl, wA 9 (by decide +kernel) rfl, by decide +kernel, by decide +kernel, by decide⟩
theorem mi_Model_unison : MI Y_Model_unison := wA 1076 (by decide +kernel) rfl
theorem mv_Model_unison : MV Y_Model_unison := wA 1077 (by decide +kernel) rfl
def Y_Model_row : Yx := (⟨R_Model, "row", "(I)I"⟩, prog_10_method_57_code, 2, (some Jvm.ClassFile.FieldType.int))
theorem mo_Model_row : MOK Y_Model_row 1 := ⟨wA 1082 (by decide +kernel) rfl, wA 9 (by decide +kernel) rfl, by decide +kernel, by decide +kernel, by decide⟩
theorem mi_Model_row : MI Y_Model_row := wA 1080 (by decide +kernel) rfl
theorem mv_Model_row : MV Y_Model_row := wA 1081 (by decide +kernel) rfl
def Y_Model_who : Yx := (⟨R_Model, "who", "(I)I"⟩, prog_10_method_59_code, 4, (some Jvm.ClassFile.FieldType.int))
theorem mo_Model_who : MOK Y_Model_who 1 := ⟨wA 1086 (by decide +kernel) rfl, wA 9 (by decide +kernel) rfl, by decide +kernel, by decide +kernel, by decide⟩
theorem mi_Model_who : MI Y_Model_who := wA 1084 (by decide +kernel) rfl
theorem mv_Model_who : MV Y_Model_who := wA 1085 (by decide +kernel) rfl
def Y_Model_unlike : Yx := (⟨R_Model, "unlike", "(III)I"⟩, prog_10_method_58_code, 6, (some Jvm.ClassFile.FieldType.int))
theorem mo_Model_unlike : MOK Y_Model_unlike 3 := ⟨wA 1090 (by decide +kernel) rfl, wA 9 (by decide +kernel) rfl, by decide +kernel, by decide +kernel, by decide⟩
theorem mi_Model_unlike : MI Y_Model_unlike := wA 1089 (by decide +kernel) rfl
theorem mv_Model_unlike : MV Y_Model_unlike := wS 49 (by decide +kernel) rfl
def Y_Model_judge : Yx := (⟨R_Model, "judge", "(II)I"⟩, prog_10_method_60_code, 4, (some Jvm.ClassFile.FieldType.int))
theorem mo_Model_judge : MOK Y_Model_judge 2 := ⟨wA 1094 (by decide +kernel) rfl, wA 9 (by decide +kernel) rfl, by decide +kernel, by decide +kernel, by decide⟩
theorem mi_Model_judge : MI Y_Model_judge := wA 1092 (by decide +kernel) rfl
theorem mv_Model_judge : MV Y_Model_judge := wA 1093 (by decide +kernel) rfl
def Y_Model_seeds : Yx := (⟨R_Model, "seeds", "(II)I"⟩, prog_10_method_61_code, 7, (some Jvm.ClassFile.FieldType.int))
theorem mo_Model_seeds : MOK Y_Model_seeds 2 := ⟨wA 1098 (by decide +kernel) rfl, wA 9 (by decide +kernel) rfl, by decide +kernel, by decide +kernel, by decide⟩
theorem mi_Model_seeds : MI Y_Model_seeds := wA 1096 (by decide +kernel) rfl
theorem mv_Model_seeds : MV Y_Model_seeds := wA 1097 (by decide +kernel) rfl
def Y_Model_count : Yx := (⟨R_Model, "count", "(I)I"⟩, prog_10_method_62_code, 2, (some Jvm.ClassFile.FieldType.int))
theorem mo_Model_count : MOK Y_Model_count 1 := ⟨wA 1105 (by decide +kernel) rfl, wA 9 (by decide +kernel) rfl, by decide +kernel, by decide +kernel, by decide⟩
theorem mi_Model_count : MI Y_Model_count := wA 1103 (by decide +kernel) rfl
theorem mv_Model_count : MV Y_Model_count := wA 1104 (by decide +kernel) rfl
theorem nc_Law_7 : Cond.classLink "OneTuneNineLaw" 7 R_Main ∈ wsAll := wA 15 (by decide +kernel) rfl
theorem ni_Main : Cond.instantiable R_Main 8 ∈ wsAll := wA 16 (by decide +kernel) rfl
theorem nz_Main : Cond.initialized R_Main ∈ wsAll := wA 1 (by decide +kernel) rfl
theorem lk_Law_9 : LK "OneTuneNineLaw" 9 Y_Main_init := Or.inl (wA 17 (by decide +kernel) rfl)
theorem lo_Main_1 : Cond.methodLink R_Main 1 objectInit ∈ wsAll := wA 20 (by decide +kernel) rfl
theorem nc_Main_7 : Cond.classLink R_Main 7 R_Canon ∈ wsAll := wA 23 (by decide +kernel) rfl
theorem ni_Canon : Cond.instantiable R_Canon 9 ∈ wsAll := wA 24 (by decide +kernel) rfl
theorem nz_Canon : Cond.initialized R_Canon ∈ wsAll := wA 2 (by decide +kernel) rfl
theorem lk_Main_9 : LK R_Main 9 Y_Canon_init := Or.inr ⟨"OneTuneNine", List.mem_of_getElem? (i := 0) (by decide +kernel)⟩
theorem lo_Canon_3 : Cond.methodLink R_Canon 3 objectInit ∈ wsAll := wA 28 (by decide +kernel) rfl
theorem nc_Canon_9 : Cond.classLink R_Canon 9 R_Tune ∈ wsAll := wA 29 (by decide +kernel) rfl
theorem ni_Tune : Cond.instantiable R_Tune 4 ∈ wsAll := wA 30 (by decide +kernel) rfl
theorem nz_Tune : Cond.initialized R_Tune ∈ wsAll := wA 3 (by decide +kernel) rfl
theorem lk_Canon_11 : LK R_Canon 11 Y_Tune_init := Or.inr ⟨"OneTuneNine", List.mem_of_getElem? (i := 1) (by decide +kernel)⟩
theorem lo_Tune_3 : Cond.methodLink R_Tune 3 objectInit ∈ wsAll := wA 34 (by decide +kernel) rfl
theorem nc_Tune_9 : Cond.classLink R_Tune 9 R_Row ∈ wsAll := wA 35 (by decide +kernel) rfl
theorem ni_Row : Cond.instantiable R_Row 2 ∈ wsAll := wA 36 (by decide +kernel) rfl
theorem nz_Row : Cond.initialized R_Row ∈ wsAll := wA 4 (by decide +kernel) rfl
theorem lk_Tune_11 : LK R_Tune 11 Y_Row_init := Or.inl (wA 37 (by decide +kernel) rfl)
theorem lo_Row_1 : Cond.methodLink R_Row 1 objectInit ∈ wsAll := wA 40 (by decide +kernel) rfl
theorem fl_Row_13 : FL R_Row 13 3 0 := ⟨_, rfl, by decide, rfl, Or.inl (wA 41 (by decide +kernel) rfl)⟩
theorem fl_Row_7 : FL R_Row 7 3 1 := ⟨_, rfl, by decide, rfl, Or.inl (wA 42 (by decide +kernel) rfl)⟩
theorem ac_int : Cond.arrayClass .int ∈ wsAll := wA 48 (by decide +kernel) rfl
theorem fl_Tune_14 : FL R_Tune 14 5 0 := ⟨_, rfl, by decide, rfl, Or.inl (wA 49 (by decide +kernel) rfl)⟩
theorem fl_Meetings_82 : FL R_Meetings 82 5 0 := ⟨_, rfl, by decide, rfl, Or.inr ⟨"OneTuneNine", List.mem_of_getElem? (i := 2) (by decide +kernel)⟩⟩
theorem fl_Tune_20 : FL R_Tune 20 5 1 := ⟨_, rfl, by decide, rfl, Or.inl (wA 51 (by decide +kernel) rfl)⟩
theorem fl_Tune_23 : FL R_Tune 23 5 2 := ⟨_, rfl, by decide, rfl, Or.inl (wA 52 (by decide +kernel) rfl)⟩
theorem fl_Tune_26 : FL R_Tune 26 5 3 := ⟨_, rfl, by decide, rfl, Or.inl (wA 53 (by decide +kernel) rfl)⟩
theorem fl_Canon_87 : FL R_Canon 87 5 3 := ⟨_, rfl, by decide, rfl, Or.inr ⟨"OneTuneNine", List.mem_of_getElem? (i := 3) (by decide +kernel)⟩⟩
theorem fl_Main_224 : FL R_Main 224 5 3 := ⟨_, rfl, by decide, rfl, Or.inr ⟨"OneTuneNine", List.mem_of_getElem? (i := 4) (by decide +kernel)⟩⟩
theorem nc_Canon_18 : Cond.classLink R_Canon 18 R_Row ∈ wsAll := wA 65 (by decide +kernel) rfl
theorem lk_Canon_20 : LK R_Canon 20 Y_Row_init := Or.inl (wA 66 (by decide +kernel) rfl)
theorem fl_Canon_12 : FL R_Canon 12 0 0 := ⟨_, rfl, by decide, rfl, Or.inl (wA 67 (by decide +kernel) rfl)⟩
theorem fl_Main_91 : FL R_Main 91 0 0 := ⟨_, rfl, by decide, rfl, Or.inr ⟨"OneTuneNine", List.mem_of_getElem? (i := 5) (by decide +kernel)⟩⟩
theorem fl_Mind_58 : FL R_Mind 58 0 0 := ⟨_, rfl, by decide, rfl, Or.inr ⟨"OneTuneNine", List.mem_of_getElem? (i := 6) (by decide +kernel)⟩⟩
theorem fl_Meetings_78 : FL R_Meetings 78 0 0 := ⟨_, rfl, by decide, rfl, Or.inr ⟨"OneTuneNine", List.mem_of_getElem? (i := 7) (by decide +kernel)⟩⟩
theorem fl_Canon_23 : FL R_Canon 23 0 1 := ⟨_, rfl, by decide, rfl, Or.inl (wA 71 (by decide +kernel) rfl)⟩
theorem fl_Canon_27 : FL R_Canon 27 0 2 := ⟨_, rfl, by decide, rfl, Or.inl (wA 72 (by decide +kernel) rfl)⟩
theorem fl_Canon_30 : FL R_Canon 30 0 3 := ⟨_, rfl, by decide, rfl, Or.inl (wA 73 (by decide +kernel) rfl)⟩
theorem fl_Canon_33 : FL R_Canon 33 0 4 := ⟨_, rfl, by decide, rfl, Or.inl (wA 74 (by decide +kernel) rfl)⟩
theorem fl_Canon_36 : FL R_Canon 36 0 5 := ⟨_, rfl, by decide, rfl, Or.inl (wA 75 (by decide +kernel) rfl)⟩
theorem fl_Canon_39 : FL R_Canon 39 0 6 := ⟨_, rfl, by decide, rfl, Or.inl (wA 76 (by decide +kernel) rfl)⟩
theorem fl_Main_135 : FL R_Main 135 0 6 := ⟨_, rfl, by decide, rfl, Or.inr ⟨"OneTuneNine", List.mem_of_getElem? (i := 8) (by decide +kernel)⟩⟩
theorem fl_Canon_43 : FL R_Canon 43 0 7 := ⟨_, rfl, by decide, rfl, Or.inl (wA 78 (by decide +kernel) rfl)⟩
theorem fl_Main_139 : FL R_Main 139 0 7 := ⟨_, rfl, by decide, rfl, Or.inr ⟨"OneTuneNine", List.mem_of_getElem? (i := 9) (by decide +kernel)⟩⟩
theorem fl_Canon_46 : FL R_Canon 46 0 8 := ⟨_, rfl, by decide, rfl, Or.inl (wA 80 (by decide +kernel) rfl)⟩
theorem fl_Meetings_87 : FL R_Meetings 87 0 8 := ⟨_, rfl, by decide, rfl, Or.inr ⟨"OneTuneNine", List.mem_of_getElem? (i := 10) (by decide +kernel)⟩⟩
theorem fl_Main_142 : FL R_Main 142 0 8 := ⟨_, rfl, by decide, rfl, Or.inr ⟨"OneTuneNine", List.mem_of_getElem? (i := 11) (by decide +kernel)⟩⟩
theorem nc_Main_23 : Cond.classLink R_Main 23 R_Mind ∈ wsAll := wA 102 (by decide +kernel) rfl
theorem ni_Mind : Cond.instantiable R_Mind 3 ∈ wsAll := wA 103 (by decide +kernel) rfl
theorem nz_Mind : Cond.initialized R_Mind ∈ wsAll := wA 5 (by decide +kernel) rfl
theorem lk_Main_25 : LK R_Main 25 Y_Mind_init := Or.inr ⟨"OneTuneNine", List.mem_of_getElem? (i := 12) (by decide +kernel)⟩
theorem lo_Mind_3 : Cond.methodLink R_Mind 3 objectInit ∈ wsAll := wA 107 (by decide +kernel) rfl
theorem nc_Mind_9 : Cond.classLink R_Mind 9 R_Canon ∈ wsAll := wA 108 (by decide +kernel) rfl
theorem lk_Mind_11 : LK R_Mind 11 Y_Canon_init := Or.inr ⟨"OneTuneNine", List.mem_of_getElem? (i := 13) (by decide +kernel)⟩
theorem nc_Mind_18 : Cond.classLink R_Mind 18 R_Meetings ∈ wsAll := wA 110 (by decide +kernel) rfl
theorem ni_Meetings : Cond.instantiable R_Meetings 2 ∈ wsAll := wA 111 (by decide +kernel) rfl
theorem nz_Meetings : Cond.initialized R_Meetings ∈ wsAll := wA 6 (by decide +kernel) rfl
theorem lk_Mind_20 : LK R_Mind 20 Y_Meetings_init := Or.inr ⟨"OneTuneNine", List.mem_of_getElem? (i := 14) (by decide +kernel)⟩
theorem lo_Meetings_3 : Cond.methodLink R_Meetings 3 objectInit ∈ wsAll := wA 115 (by decide +kernel) rfl
theorem nc_Meetings_9 : Cond.classLink R_Meetings 9 R_Row ∈ wsAll := wA 116 (by decide +kernel) rfl
theorem lk_Meetings_11 : LK R_Meetings 11 Y_Row_init := Or.inl (wA 117 (by decide +kernel) rfl)
theorem fl_Meetings_14 : FL R_Meetings 14 1 0 := ⟨_, rfl, by decide, rfl, Or.inl (wA 118 (by decide +kernel) rfl)⟩
theorem fl_Meetings_20 : FL R_Meetings 20 1 1 := ⟨_, rfl, by decide, rfl, Or.inl (wA 119 (by decide +kernel) rfl)⟩
theorem nc_Mind_25 : Cond.classLink R_Mind 25 R_Row ∈ wsAll := wA 125 (by decide +kernel) rfl
theorem lk_Mind_27 : LK R_Mind 27 Y_Row_init := Or.inl (wA 126 (by decide +kernel) rfl)
theorem fl_Mind_12 : FL R_Mind 12 2 0 := ⟨_, rfl, by decide, rfl, Or.inl (wA 127 (by decide +kernel) rfl)⟩
theorem fl_Mind_21 : FL R_Mind 21 2 1 := ⟨_, rfl, by decide, rfl, Or.inl (wA 128 (by decide +kernel) rfl)⟩
theorem fl_Mind_30 : FL R_Mind 30 2 2 := ⟨_, rfl, by decide, rfl, Or.inl (wA 129 (by decide +kernel) rfl)⟩
theorem nc_Main_30 : Cond.classLink R_Main 30 R_Walks ∈ wsAll := wA 137 (by decide +kernel) rfl
theorem ni_Walks : Cond.instantiable R_Walks 2 ∈ wsAll := wA 138 (by decide +kernel) rfl
theorem nz_Walks : Cond.initialized R_Walks ∈ wsAll := wA 7 (by decide +kernel) rfl
theorem lk_Main_32 : LK R_Main 32 Y_Walks_init := Or.inr ⟨"OneTuneNine", List.mem_of_getElem? (i := 15) (by decide +kernel)⟩
theorem lo_Walks_3 : Cond.methodLink R_Walks 3 objectInit ∈ wsAll := wA 142 (by decide +kernel) rfl
theorem fl_Walks_9 : FL R_Walks 9 6 0 := ⟨_, rfl, by decide, rfl, Or.inl (wA 143 (by decide +kernel) rfl)⟩
theorem fl_Walks_15 : FL R_Walks 15 6 1 := ⟨_, rfl, by decide, rfl, Or.inl (wA 144 (by decide +kernel) rfl)⟩
theorem ac_long : Cond.arrayClass .long ∈ wsAll := wA 150 (by decide +kernel) rfl
theorem nc_Main_37 : Cond.classLink R_Main 37 R_Text ∈ wsAll := wA 151 (by decide +kernel) rfl
theorem ni_Text : Cond.instantiable R_Text 1 ∈ wsAll := wA 152 (by decide +kernel) rfl
theorem nz_Text : Cond.initialized R_Text ∈ wsAll := wA 8 (by decide +kernel) rfl
theorem lk_Main_39 : LK R_Main 39 Y_Text_init := Or.inr ⟨"OneTuneNine", List.mem_of_getElem? (i := 16) (by decide +kernel)⟩
theorem lo_Text_3 : Cond.methodLink R_Text 3 objectInit ∈ wsAll := wA 156 (by decide +kernel) rfl
theorem nc_Text_9 : Cond.classLink R_Text 9 R_Row ∈ wsAll := wA 157 (by decide +kernel) rfl
theorem lk_Text_11 : LK R_Text 11 Y_Row_init := Or.inl (wA 158 (by decide +kernel) rfl)
theorem fl_Text_14 : FL R_Text 14 4 0 := ⟨_, rfl, by decide, rfl, Or.inl (wA 159 (by decide +kernel) rfl)⟩
theorem nc_Main_44 : Cond.classLink R_Main 44 R_Row ∈ wsAll := wA 163 (by decide +kernel) rfl
theorem lk_Main_46 : LK R_Main 46 Y_Row_init := Or.inl (wA 164 (by decide +kernel) rfl)
theorem lk_Main_56 : LK R_Main 56 Y_Row_add := Or.inl (wA 165 (by decide +kernel) rfl)
theorem fl_Main_10 : FL R_Main 10 7 0 := ⟨_, rfl, by decide, rfl, Or.inl (wA 169 (by decide +kernel) rfl)⟩
theorem fl_Main_16 : FL R_Main 16 7 1 := ⟨_, rfl, by decide, rfl, Or.inl (wA 170 (by decide +kernel) rfl)⟩
theorem fl_Main_19 : FL R_Main 19 7 2 := ⟨_, rfl, by decide, rfl, Or.inl (wA 171 (by decide +kernel) rfl)⟩
theorem fl_Main_26 : FL R_Main 26 7 3 := ⟨_, rfl, by decide, rfl, Or.inl (wA 172 (by decide +kernel) rfl)⟩
theorem fl_Main_33 : FL R_Main 33 7 4 := ⟨_, rfl, by decide, rfl, Or.inl (wA 173 (by decide +kernel) rfl)⟩
theorem fl_Main_40 : FL R_Main 40 7 5 := ⟨_, rfl, by decide, rfl, Or.inl (wA 174 (by decide +kernel) rfl)⟩
theorem fl_Main_49 : FL R_Main 49 7 6 := ⟨_, rfl, by decide, rfl, Or.inl (wA 175 (by decide +kernel) rfl)⟩
theorem fl_Main_53 : FL R_Main 53 7 7 := ⟨_, rfl, by decide, rfl, Or.inl (wA 176 (by decide +kernel) rfl)⟩
theorem lk_Law_13 : LK "OneTuneNineLaw" 13 Y_Main_letter := Or.inl (wA 194 (by decide +kernel) rfl)
theorem lk_Main_59 : LK R_Main 59 Y_Main_outside := Or.inl (wA 198 (by decide +kernel) rfl)
theorem lk_Main_63 : LK R_Main 63 Y_Text_size := Or.inl (wA 201 (by decide +kernel) rfl)
theorem lk_Text_20 : LK R_Text 20 Y_Row_size := Or.inl (wA 205 (by decide +kernel) rfl)
theorem lk_Main_67 : LK R_Main 67 Y_Main_refuse := Or.inl (wA 209 (by decide +kernel) rfl)
theorem lk_Main_230 : LK R_Main 230 Y_Row_get := Or.inl (wA 213 (by decide +kernel) rfl)
theorem lk_Main_236 : LK R_Main 236 Y_Row_set := Or.inl (wA 217 (by decide +kernel) rfl)
theorem lk_Main_71 : LK R_Main 71 Y_Text_add := Or.inl (wA 221 (by decide +kernel) rfl)
theorem lk_Text_24 : LK R_Text 24 Y_Row_add := Or.inl (wA 225 (by decide +kernel) rfl)
theorem lk_Law_18 : LK "OneTuneNineLaw" 18 Y_Main_canon := Or.inl (wA 226 (by decide +kernel) rfl)
theorem lk_Main_73 : LK R_Main 73 Y_Text_formFault := Or.inl (wA 230 (by decide +kernel) rfl)
theorem lk_Text_68 : LK R_Text 68 Y_Text_formAt := Or.inl (wA 234 (by decide +kernel) rfl)
theorem lk_Text_38 : LK R_Text 38 Y_Text_at := Or.inl (wA 238 (by decide +kernel) rfl)
theorem lk_Text_30 : LK R_Text 30 Y_Row_has := Or.inl (wA 242 (by decide +kernel) rfl)
theorem lk_Text_34 : LK R_Text 34 Y_Row_get := Or.inl (wA 246 (by decide +kernel) rfl)
theorem lk_Text_52 : LK R_Text 52 Y_Text_isDigit := Or.inl (wA 247 (by decide +kernel) rfl)
theorem lk_Text_43 : LK R_Text 43 Y_String_length := Or.inl (wA 256 (by decide +kernel) rfl)
theorem lk_String_335 : LK "java/lang/String" 335 Y_String_coder := Or.inl (wA 260 (by decide +kernel) rfl)
theorem lk_Text_48 : LK R_Text 48 Y_String_charAt := Or.inl (wA 266 (by decide +kernel) rfl)
theorem lk_String_492 : LK "java/lang/String" 492 Y_String_isLatin1 := Or.inl (wA 270 (by decide +kernel) rfl)
theorem lk_String_495 : LK "java/lang/String" 495 Y_Latin1_charAt := Or.inl (wA 274 (by decide +kernel) rfl)
theorem lk_Latin1_9 : LK "java/lang/StringLatin1" 9 Y_String_checkIndex := Or.inl (wA 277 (by decide +kernel) rfl)
theorem lk_String_1059 : LK "java/lang/String" 1059 Y_Precond_checkIndex := Or.inl (wA 282 (by decide +kernel) rfl)
theorem lk_String_498 : LK "java/lang/String" 498 Y_UTF16_charAt := Or.inl (wA 285 (by decide +kernel) rfl)
theorem lk_UTF16_67 : LK "java/lang/StringUTF16" 67 Y_UTF16_checkIndex := Or.inl (wA 288 (by decide +kernel) rfl)
theorem lk_UTF16_48 : LK "java/lang/StringUTF16" 48 Y_UTF16_length := Or.inl (wA 291 (by decide +kernel) rfl)
theorem lk_UTF16_414 : LK "java/lang/StringUTF16" 414 Y_String_checkIndex := Or.inl (wA 294 (by decide +kernel) rfl)
theorem lk_UTF16_71 : LK "java/lang/StringUTF16" 71 Y_UTF16_getChar := Or.inl (wA 295 (by decide +kernel) rfl)
theorem lk_Text_72 : LK R_Text 72 Y_Text_fits := Or.inl (wA 304 (by decide +kernel) rfl)
theorem lk_Text_65 : LK R_Text 65 Y_Text_kind := Or.inl (wA 308 (by decide +kernel) rfl)
theorem lk_Main_76 : LK R_Main 76 Y_Mind_take := Or.inl (wA 313 (by decide +kernel) rfl)
theorem lk_Mind_34 : LK R_Mind 34 Y_Canon_copyFrom := Or.inl (wA 317 (by decide +kernel) rfl)
theorem lk_Canon_49 : LK R_Canon 49 Y_Tune_copyFrom := Or.inl (wA 321 (by decide +kernel) rfl)
theorem lk_Tune_52 : LK R_Tune 52 Y_Row_copyFrom := Or.inl (wA 325 (by decide +kernel) rfl)
theorem lk_Row_17 : LK R_Row 17 Y_Row_clear := Or.inl (wA 329 (by decide +kernel) rfl)
theorem lk_Row_20 : LK R_Row 20 Y_Row_size := Or.inl (wA 333 (by decide +kernel) rfl)
theorem lk_Row_24 : LK R_Row 24 Y_Row_get := Or.inl (wA 334 (by decide +kernel) rfl)
theorem lk_Row_28 : LK R_Row 28 Y_Row_add := Or.inl (wA 335 (by decide +kernel) rfl)
theorem lk_Canon_53 : LK R_Canon 53 Y_Row_copyFrom := Or.inl (wA 336 (by decide +kernel) rfl)
theorem lk_Main_80 : LK R_Main 80 Y_Text_tellAll := Or.inl (wA 337 (by decide +kernel) rfl)
theorem lk_Text_76 : LK R_Text 76 Y_Text_tell := Or.inl (wA 341 (by decide +kernel) rfl)
theorem lk_Text_80 : LK R_Text 80 Y_Text_digit := Or.inl (wA 345 (by decide +kernel) rfl)
theorem lk_Text_83 : LK R_Text 83 Y_Canon_tellNote := Or.inl (wA 349 (by decide +kernel) rfl)
theorem lk_Canon_75 : LK R_Canon 75 Y_Tune_notes := Or.inl (wA 353 (by decide +kernel) rfl)
theorem lk_Tune_30 : LK R_Tune 30 Y_Row_size := Or.inl (wA 357 (by decide +kernel) rfl)
theorem lk_Canon_78 : LK R_Canon 78 Y_Tune_add := Or.inl (wA 358 (by decide +kernel) rfl)
theorem lk_Tune_46 : LK R_Tune 46 Y_Row_add := Or.inl (wA 362 (by decide +kernel) rfl)
theorem lk_Text_89 : LK R_Text 89 Y_Text_entry := Or.inl (wA 363 (by decide +kernel) rfl)
theorem lk_Text_92 : LK R_Text 92 Y_Canon_tellVoice := Or.inl (wA 367 (by decide +kernel) rfl)
theorem lk_Canon_80 : LK R_Canon 80 Y_Canon_voices := Or.inl (wA 371 (by decide +kernel) rfl)
theorem lk_Canon_56 : LK R_Canon 56 Y_Row_size := Or.inl (wA 375 (by decide +kernel) rfl)
theorem lk_Canon_83 : LK R_Canon 83 Y_Canon_addVoice := Or.inl (wA 376 (by decide +kernel) rfl)
theorem lk_Canon_72 : LK R_Canon 72 Y_Row_add := Or.inl (wA 380 (by decide +kernel) rfl)
theorem lk_Text_96 : LK R_Text 96 Y_Canon_tellRounds := Or.inl (wA 381 (by decide +kernel) rfl)
theorem lk_Text_99 : LK R_Text 99 Y_Canon_tellWell := Or.inl (wA 385 (by decide +kernel) rfl)
theorem lk_Main_84 : LK R_Main 84 Y_Canon_copyFrom := Or.inl (wA 389 (by decide +kernel) rfl)
theorem lk_Main_88 : LK R_Main 88 Y_Text_clear := Or.inl (wA 390 (by decide +kernel) rfl)
theorem lk_Text_27 : LK R_Text 27 Y_Row_clear := Or.inl (wA 394 (by decide +kernel) rfl)
theorem ac_byte : Cond.arrayClass .byte ∈ wsAll := wA 395 (by decide +kernel) rfl
theorem lk_Law_23 : LK "OneTuneNineLaw" 23 Y_Main_note := Or.inl (wA 396 (by decide +kernel) rfl)
theorem lk_Main_95 : LK R_Main 95 Y_Tune_has := Or.inl (wA 400 (by decide +kernel) rfl)
theorem lk_Tune_34 : LK R_Tune 34 Y_Row_has := Or.inl (wA 404 (by decide +kernel) rfl)
theorem lk_Main_101 : LK R_Main 101 Y_Tune_pitchOf := Or.inl (wA 405 (by decide +kernel) rfl)
theorem lk_Tune_38 : LK R_Tune 38 Y_Row_get := Or.inl (wA 409 (by decide +kernel) rfl)
theorem lk_Main_104 : LK R_Main 104 Y_Tune_lengthOf := Or.inl (wA 410 (by decide +kernel) rfl)
theorem lk_Main_107 : LK R_Main 107 Y_Tune_startOf := Or.inl (wA 414 (by decide +kernel) rfl)
theorem lk_Law_28 : LK "OneTuneNineLaw" 28 Y_Main_voice := Or.inl (wA 418 (by decide +kernel) rfl)
theorem lk_Main_110 : LK R_Main 110 Y_Canon_hasVoice := Or.inl (wA 422 (by decide +kernel) rfl)
theorem lk_Canon_60 : LK R_Canon 60 Y_Row_has := Or.inl (wA 426 (by decide +kernel) rfl)
theorem lk_Main_113 : LK R_Main 113 Y_Canon_kindOf := Or.inl (wA 427 (by decide +kernel) rfl)
theorem lk_Canon_64 : LK R_Canon 64 Y_Row_get := Or.inl (wA 431 (by decide +kernel) rfl)
theorem lk_Main_116 : LK R_Main 116 Y_Canon_entryOf := Or.inl (wA 432 (by decide +kernel) rfl)
theorem lk_Main_119 : LK R_Main 119 Y_Canon_highOf := Or.inl (wA 436 (by decide +kernel) rfl)
theorem lk_Main_122 : LK R_Main 122 Y_Canon_roundBeats := Or.inl (wA 440 (by decide +kernel) rfl)
theorem lk_Main_125 : LK R_Main 125 Y_Canon_stillFrom := Or.inl (wA 444 (by decide +kernel) rfl)
theorem lk_Canon_90 : LK R_Canon 90 Y_Canon_roundBeats := Or.inl (wA 448 (by decide +kernel) rfl)
theorem lk_Law_32 : LK "OneTuneNineLaw" 32 Y_Main_pitch := Or.inl (wA 449 (by decide +kernel) rfl)
theorem lk_Main_128 : LK R_Main 128 Y_Tune_setPitch := Or.inl (wA 453 (by decide +kernel) rfl)
theorem lk_Tune_42 : LK R_Tune 42 Y_Row_set := Or.inl (wA 457 (by decide +kernel) rfl)
theorem lk_Law_36 : LK "OneTuneNineLaw" 36 Y_Main_enter := Or.inl (wA 458 (by decide +kernel) rfl)
theorem lk_Main_132 : LK R_Main 132 Y_Canon_setEntry := Or.inl (wA 462 (by decide +kernel) rfl)
theorem lk_Canon_68 : LK R_Canon 68 Y_Row_set := Or.inl (wA 466 (by decide +kernel) rfl)
theorem lk_Law_40 : LK "OneTuneNineLaw" 40 Y_Main_rounds := Or.inl (wA 467 (by decide +kernel) rfl)
theorem lk_Law_44 : LK "OneTuneNineLaw" 44 Y_Main_step := Or.inl (wA 471 (by decide +kernel) rfl)
theorem lk_Law_48 : LK "OneTuneNineLaw" 48 Y_Main_law := Or.inl (wA 475 (by decide +kernel) rfl)
theorem lk_Law_52 : LK "OneTuneNineLaw" 52 Y_Main_sound := Or.inl (wA 479 (by decide +kernel) rfl)
theorem cn_Main_145 : Cond.constant R_Main 145 1000000000 ∈ wsAll := wA 483 (by decide +kernel) rfl
theorem lk_Main_146 : LK R_Main 146 Y_Canon_soundOf := Or.inl (wA 484 (by decide +kernel) rfl)
theorem lk_Canon_105 : LK R_Canon 105 Y_Canon_noteSung := Or.inl (wA 488 (by decide +kernel) rfl)
theorem lk_Canon_102 : LK R_Canon 102 Y_Tune_noteAt := Or.inl (wA 492 (by decide +kernel) rfl)
theorem lk_Canon_108 : LK R_Canon 108 Y_Tune_pitchOf := Or.inl (wA 496 (by decide +kernel) rfl)
theorem lk_Canon_111 : LK R_Canon 111 Y_Canon_isTurned := Or.inl (wA 497 (by decide +kernel) rfl)
theorem lk_Canon_114 : LK R_Canon 114 Y_Canon_lift := Or.inl (wA 501 (by decide +kernel) rfl)
theorem lk_Law_56 : LK "OneTuneNineLaw" 56 Y_Main_ill := Or.inl (wA 505 (by decide +kernel) rfl)
theorem lk_Main_150 : LK R_Main 150 Y_Canon_illsAt := Or.inl (wA 509 (by decide +kernel) rfl)
theorem lk_Canon_127 : LK R_Canon 127 Y_Canon_listen := Or.inl (wA 513 (by decide +kernel) rfl)
theorem lk_Canon_117 : LK R_Canon 117 Y_Row_clear := Or.inl (wA 517 (by decide +kernel) rfl)
theorem lk_Canon_120 : LK R_Canon 120 Y_Canon_soundOf := Or.inl (wA 518 (by decide +kernel) rfl)
theorem lk_Canon_130 : LK R_Canon 130 Y_Canon_clash := Or.inl (wA 519 (by decide +kernel) rfl)
theorem lk_Canon_123 : LK R_Canon 123 Y_Main_soundsWell := Or.inr ⟨"OneTuneNine", List.mem_of_getElem? (i := 17) (by decide +kernel)⟩
theorem lm_Main_233 : Cond.methodLink R_Main 233 ⟨"java/lang/Math", "abs", "(I)I"⟩ ∈ wsAll := wA 526 (by decide +kernel) rfl
theorem lk_Law_60 : LK "OneTuneNineLaw" 60 Y_Main_first := Or.inl (wA 529 (by decide +kernel) rfl)
theorem lk_Main_153 : LK R_Main 153 Y_Canon_firstIllBeat := Or.inl (wA 533 (by decide +kernel) rfl)
theorem lk_Canon_133 : LK R_Canon 133 Y_Canon_end := Or.inl (wA 537 (by decide +kernel) rfl)
theorem lk_Canon_93 : LK R_Canon 93 Y_Canon_stillFrom := Or.inl (wA 541 (by decide +kernel) rfl)
theorem lm_Canon_96 : Cond.methodLink R_Canon 96 ⟨"java/lang/Math", "max", "(II)I"⟩ ∈ wsAll := wA 542 (by decide +kernel) rfl
theorem lk_Canon_136 : LK R_Canon 136 Y_Canon_illsAt := Or.inl (wA 545 (by decide +kernel) rfl)
theorem lk_Main_156 : LK R_Main 156 Y_Canon_firstIllPair := Or.inl (wA 546 (by decide +kernel) rfl)
theorem lk_Law_64 : LK "OneTuneNineLaw" 64 Y_Main_allIll := Or.inl (wA 550 (by decide +kernel) rfl)
theorem lk_Main_159 : LK R_Main 159 Y_Canon_illsInAll := Or.inl (wA 554 (by decide +kernel) rfl)
theorem lk_Law_68 : LK "OneTuneNineLaw" 68 Y_Main_entries := Or.inl (wA 558 (by decide +kernel) rfl)
theorem lk_Main_162 : LK R_Main 162 Y_Mind_agreeingEntries := Or.inl (wA 562 (by decide +kernel) rfl)
theorem lk_Mind_38 : LK R_Mind 38 Y_Mind_take := Or.inl (wA 566 (by decide +kernel) rfl)
theorem lk_Mind_42 : LK R_Mind 42 Y_Canon_voices := Or.inl (wA 567 (by decide +kernel) rfl)
theorem lk_Mind_46 : LK R_Mind 46 Y_Canon_addVoice := Or.inl (wA 568 (by decide +kernel) rfl)
theorem lk_Mind_50 : LK R_Mind 50 Y_Canon_setEntry := Or.inl (wA 569 (by decide +kernel) rfl)
theorem lk_Mind_54 : LK R_Mind 54 Y_Canon_lastAgreesWithAll := Or.inl (wA 570 (by decide +kernel) rfl)
theorem lk_Law_72 : LK "OneTuneNineLaw" 72 Y_Main_added := Or.inl (wA 574 (by decide +kernel) rfl)
theorem lk_Main_166 : LK R_Main 166 Y_Mind_addablePitches := Or.inl (wA 578 (by decide +kernel) rfl)
theorem lk_Mind_62 : LK R_Mind 62 Y_Tune_notes := Or.inl (wA 582 (by decide +kernel) rfl)
theorem lk_Mind_67 : LK R_Mind 67 Y_Tune_add := Or.inl (wA 583 (by decide +kernel) rfl)
theorem lk_Mind_70 : LK R_Mind 70 Y_Meetings_gather := Or.inl (wA 584 (by decide +kernel) rfl)
theorem lk_Meetings_23 : LK R_Meetings 23 Y_Row_clear := Or.inl (wA 588 (by decide +kernel) rfl)
theorem lk_Meetings_26 : LK R_Meetings 26 Y_Canon_voices := Or.inl (wA 589 (by decide +kernel) rfl)
theorem lk_Meetings_32 : LK R_Meetings 32 Y_Row_size := Or.inl (wA 590 (by decide +kernel) rfl)
theorem lk_Meetings_35 : LK R_Meetings 35 Y_Canon_entryOf := Or.inl (wA 591 (by decide +kernel) rfl)
theorem lm_Meetings_39 : Cond.methodLink R_Meetings 39 ⟨"java/lang/Math", "max", "(II)I"⟩ ∈ wsAll := wA 592 (by decide +kernel) rfl
theorem lk_Meetings_45 : LK R_Meetings 45 Y_Canon_stillFrom := Or.inl (wA 593 (by decide +kernel) rfl)
theorem lm_Meetings_48 : Cond.methodLink R_Meetings 48 ⟨"java/lang/Math", "min", "(II)I"⟩ ∈ wsAll := wA 594 (by decide +kernel) rfl
theorem lk_Meetings_51 : LK R_Meetings 51 Y_Meetings_wayOf := Or.inl (wA 597 (by decide +kernel) rfl)
theorem lk_Meetings_59 : LK R_Meetings 59 Y_Canon_lift := Or.inl (wA 600 (by decide +kernel) rfl)
theorem lk_Meetings_62 : LK R_Meetings 62 Y_Canon_isTurned := Or.inl (wA 601 (by decide +kernel) rfl)
theorem lk_Meetings_66 : LK R_Meetings 66 Y_Canon_noteSung := Or.inl (wA 602 (by decide +kernel) rfl)
theorem lk_Meetings_55 : LK R_Meetings 55 Y_Meetings_meet := Or.inl (wA 603 (by decide +kernel) rfl)
theorem lk_Meetings_69 : LK R_Meetings 69 Y_Row_get := Or.inl (wA 607 (by decide +kernel) rfl)
theorem lk_Meetings_72 : LK R_Meetings 72 Y_Row_set := Or.inl (wA 608 (by decide +kernel) rfl)
theorem lk_Meetings_75 : LK R_Meetings 75 Y_Row_add := Or.inl (wA 609 (by decide +kernel) rfl)
theorem lk_Mind_73 : LK R_Mind 73 Y_Tune_setPitch := Or.inl (wA 610 (by decide +kernel) rfl)
theorem lk_Mind_76 : LK R_Mind 76 Y_Meetings_areWell := Or.inl (wA 611 (by decide +kernel) rfl)
theorem lk_Meetings_95 : LK R_Meetings 95 Y_Meetings_isIll := Or.inl (wA 615 (by decide +kernel) rfl)
theorem lk_Meetings_91 : LK R_Meetings 91 Y_Main_soundsWell := Or.inr ⟨"OneTuneNine", List.mem_of_getElem? (i := 18) (by decide +kernel)⟩
theorem lk_Law_76 : LK "OneTuneNineLaw" 76 Y_Main_silent := Or.inl (wA 620 (by decide +kernel) rfl)
theorem lk_Main_169 : LK R_Main 169 Y_Canon_voicesInAllIlls := Or.inl (wA 624 (by decide +kernel) rfl)
theorem lk_Law_80 : LK "OneTuneNineLaw" 80 Y_Main_changed := Or.inl (wA 628 (by decide +kernel) rfl)
theorem lk_Main_172 : LK R_Main 172 Y_Mind_fewestChanges := Or.inl (wA 632 (by decide +kernel) rfl)
theorem lk_Mind_97 : LK R_Mind 97 Y_Mind_findMends := Or.inl (wA 636 (by decide +kernel) rfl)
theorem lk_Mind_106 : LK R_Mind 106 Y_Row_clear := Or.inl (wA 640 (by decide +kernel) rfl)
theorem lk_Mind_109 : LK R_Mind 109 Y_Row_add := Or.inl (wA 641 (by decide +kernel) rfl)
theorem lk_Mind_111 : LK R_Mind 111 Y_Meetings_size := Or.inl (wA 642 (by decide +kernel) rfl)
theorem lk_Mind_114 : LK R_Mind 114 Y_Meetings_isIll := Or.inl (wA 646 (by decide +kernel) rfl)
theorem lk_Mind_118 : LK R_Mind 118 Y_Meetings_notesOf := Or.inl (wA 647 (by decide +kernel) rfl)
theorem lk_Mind_121 : LK R_Mind 121 Y_Mind_keepMends := Or.inl (wA 651 (by decide +kernel) rfl)
theorem lk_Mind_124 : LK R_Mind 124 Y_Row_size := Or.inl (wA 655 (by decide +kernel) rfl)
theorem lk_Mind_125 : LK R_Mind 125 Y_Row_get := Or.inl (wA 656 (by decide +kernel) rfl)
theorem lk_Mind_128 : LK R_Mind 128 Y_Row_set := Or.inl (wA 657 (by decide +kernel) rfl)
theorem lk_Mind_100 : LK R_Mind 100 Y_Mind_firstSingle := Or.inl (wA 658 (by decide +kernel) rfl)
theorem lk_Mind_131 : LK R_Mind 131 Y_Mind_canMend := Or.inl (wA 662 (by decide +kernel) rfl)
theorem lk_Mind_135 : LK R_Mind 135 Y_Mind_mendingPitch := Or.inl (wA 666 (by decide +kernel) rfl)
theorem lk_Mind_84 : LK R_Mind 84 Y_Tune_pitchOf := Or.inl (wA 670 (by decide +kernel) rfl)
theorem lk_Mind_103 : LK R_Mind 103 Y_Mind_hasPair := Or.inl (wA 671 (by decide +kernel) rfl)
theorem lk_Main_175 : LK R_Main 175 Y_Mind_firstChange := Or.inl (wA 675 (by decide +kernel) rfl)
theorem lk_Law_84 : LK "OneTuneNineLaw" 84 Y_Main_better := Or.inl (wA 679 (by decide +kernel) rfl)
theorem lk_Main_178 : LK R_Main 178 Y_Mind_leastIlls := Or.inl (wA 683 (by decide +kernel) rfl)
theorem lk_Mind_80 : LK R_Mind 80 Y_Meetings_ills := Or.inl (wA 687 (by decide +kernel) rfl)
theorem lm_Mind_88 : Cond.methodLink R_Mind 88 ⟨"java/lang/Math", "min", "(II)I"⟩ ∈ wsAll := wA 691 (by decide +kernel) rfl
theorem lk_Law_88 : LK "OneTuneNineLaw" 88 Y_Main_mirror := Or.inl (wA 692 (by decide +kernel) rfl)
theorem lk_Main_181 : LK R_Main 181 Y_Tune_isMirror := Or.inl (wA 696 (by decide +kernel) rfl)
theorem lk_Tune_49 : LK R_Tune 49 Y_Tune_plainAt := Or.inl (wA 700 (by decide +kernel) rfl)
theorem lk_Law_92 : LK "OneTuneNineLaw" 92 Y_Main_agreeing := Or.inl (wA 704 (by decide +kernel) rfl)
theorem lm_Main_185 : Cond.methodLink R_Main 185 ⟨"java/lang/Math", "min", "(II)I"⟩ ∈ wsAll := wA 708 (by decide +kernel) rfl
theorem lm_Main_190 : Cond.methodLink R_Main 190 ⟨"java/lang/Math", "max", "(II)I"⟩ ∈ wsAll := wA 709 (by decide +kernel) rfl
theorem cn_Main_193 : Cond.constantLong R_Main 193 4000000000000000000 ∈ wsAll := wA 710 (by decide +kernel) rfl
theorem lk_Main_195 : LK R_Main 195 Y_Walks_tunesAgreeing := Or.inl (wA 711 (by decide +kernel) rfl)
theorem lk_Walks_18 : LK R_Walks 18 Y_Walks_chainsOf := Or.inl (wA 715 (by decide +kernel) rfl)
theorem lk_Walks_22 : LK R_Walks 22 Y_Walks_lengthen := Or.inl (wA 719 (by decide +kernel) rfl)
theorem lk_Walks_26 : LK R_Walks 26 Y_Main_soundsWell := Or.inr ⟨"OneTuneNine", List.mem_of_getElem? (i := 19) (by decide +kernel)⟩
theorem lk_Law_97 : LK "OneTuneNineLaw" 97 Y_Main_range := Or.inl (wA 724 (by decide +kernel) rfl)
theorem lk_Main_199 : LK R_Main 199 Y_Canon_farthestSound := Or.inl (wA 728 (by decide +kernel) rfl)
theorem lm_Canon_139 : Cond.methodLink R_Canon 139 ⟨"java/lang/Math", "min", "(II)I"⟩ ∈ wsAll := wA 732 (by decide +kernel) rfl
theorem lk_Law_101 : LK "OneTuneNineLaw" 101 Y_Main_stop := Or.inl (wA 733 (by decide +kernel) rfl)
theorem lk_Main_203 : LK R_Main 203 Y_Canon_stillIfStoppedAt := Or.inl (wA 737 (by decide +kernel) rfl)
theorem lk_Law_105 : LK "OneTuneNineLaw" 105 Y_Main_unison := Or.inl (wA 741 (by decide +kernel) rfl)
theorem lk_Main_206 : LK R_Main 206 Y_Canon_unisonBeats := Or.inl (wA 745 (by decide +kernel) rfl)
theorem lk_Canon_142 : LK R_Canon 142 Y_Canon_isUnison := Or.inl (wA 749 (by decide +kernel) rfl)
theorem lk_Law_109 : LK "OneTuneNineLaw" 109 Y_Main_row := Or.inl (wA 753 (by decide +kernel) rfl)
theorem lk_Main_209 : LK R_Main 209 Y_Row_size := Or.inl (wA 757 (by decide +kernel) rfl)
theorem lk_Law_113 : LK "OneTuneNineLaw" 113 Y_Main_who := Or.inl (wA 758 (by decide +kernel) rfl)
theorem lk_Main_210 : LK R_Main 210 Y_Canon_voices := Or.inl (wA 762 (by decide +kernel) rfl)
theorem lk_Main_213 : LK R_Main 213 Y_Canon_firstNotHeard := Or.inl (wA 763 (by decide +kernel) rfl)
theorem lk_Law_117 : LK "OneTuneNineLaw" 117 Y_Main_judge := Or.inl (wA 767 (by decide +kernel) rfl)
theorem lk_Main_217 : LK R_Main 217 Y_Row_clear := Or.inl (wA 771 (by decide +kernel) rfl)
theorem lk_Law_121 : LK "OneTuneNineLaw" 121 Y_Main_seeds := Or.inl (wA 772 (by decide +kernel) rfl)
theorem lk_Main_218 : LK R_Main 218 Y_Mind_wellDraws := Or.inl (wA 776 (by decide +kernel) rfl)
theorem cn_Mind_94 : Cond.constant R_Mind 94 1664525 ∈ wsAll := wA 780 (by decide +kernel) rfl
theorem cn_Mind_95 : Cond.constant R_Mind 95 1013904223 ∈ wsAll := wA 781 (by decide +kernel) rfl
theorem cn_Mind_96 : Cond.constant R_Mind 96 2147483647 ∈ wsAll := wA 782 (by decide +kernel) rfl
theorem lk_Law_125 : LK "OneTuneNineLaw" 125 Y_Main_image := Or.inl (wA 783 (by decide +kernel) rfl)
theorem lk_Main_221 : LK R_Main 221 Y_Tune_notes := Or.inl (wA 787 (by decide +kernel) rfl)
theorem lk_Law_129 : LK "OneTuneNineLaw" 129 Y_Main_on := Or.inl (wA 788 (by decide +kernel) rfl)
theorem lk_Law_133 : LK "OneTuneNineLaw" 133 Y_Main_count := Or.inl (wA 792 (by decide +kernel) rfl)
theorem lk_Main_227 : LK R_Main 227 Y_Canon_end := Or.inl (wA 796 (by decide +kernel) rfl)
theorem nc_Law_10 : Cond.classLink "OneTuneNineLaw" 10 R_Model ∈ wsAll := wA 797 (by decide +kernel) rfl
theorem ni_Model : Cond.instantiable R_Model 17 ∈ wsAll := wA 798 (by decide +kernel) rfl
theorem nz_Model : Cond.initialized R_Model ∈ wsAll := wA 9 (by decide +kernel) rfl
theorem lk_Law_12 : LK "OneTuneNineLaw" 12 Y_Model_init := Or.inl (wA 799 (by decide +kernel) rfl)
theorem lo_Model_7 : Cond.methodLink R_Model 7 objectInit ∈ wsAll := wA 802 (by decide +kernel) rfl
theorem fl_Model_1 : FL R_Model 1 8 0 := ⟨_, rfl, by decide, rfl, Or.inl (wA 803 (by decide +kernel) rfl)⟩
theorem fl_Model_13 : FL R_Model 13 8 1 := ⟨_, rfl, by decide, rfl, Or.inl (wA 804 (by decide +kernel) rfl)⟩
theorem fl_Model_16 : FL R_Model 16 8 2 := ⟨_, rfl, by decide, rfl, Or.inl (wA 805 (by decide +kernel) rfl)⟩
theorem fl_Model_19 : FL R_Model 19 8 3 := ⟨_, rfl, by decide, rfl, Or.inl (wA 806 (by decide +kernel) rfl)⟩
theorem fl_Model_41 : FL R_Model 41 8 4 := ⟨_, rfl, by decide, rfl, Or.inl (wA 807 (by decide +kernel) rfl)⟩
theorem fl_Model_22 : FL R_Model 22 8 5 := ⟨_, rfl, by decide, rfl, Or.inl (wA 808 (by decide +kernel) rfl)⟩
theorem fl_Model_53 : FL R_Model 53 8 6 := ⟨_, rfl, by decide, rfl, Or.inl (wA 809 (by decide +kernel) rfl)⟩
theorem fl_Model_60 : FL R_Model 60 8 7 := ⟨_, rfl, by decide, rfl, Or.inl (wA 810 (by decide +kernel) rfl)⟩
theorem fl_Model_57 : FL R_Model 57 8 8 := ⟨_, rfl, by decide, rfl, Or.inl (wA 811 (by decide +kernel) rfl)⟩
theorem fl_Model_25 : FL R_Model 25 8 9 := ⟨_, rfl, by decide, rfl, Or.inl (wA 812 (by decide +kernel) rfl)⟩
theorem fl_Model_29 : FL R_Model 29 8 10 := ⟨_, rfl, by decide, rfl, Or.inl (wA 813 (by decide +kernel) rfl)⟩
theorem fl_Model_67 : FL R_Model 67 8 11 := ⟨_, rfl, by decide, rfl, Or.inl (wA 814 (by decide +kernel) rfl)⟩
theorem fl_Model_32 : FL R_Model 32 8 12 := ⟨_, rfl, by decide, rfl, Or.inl (wA 815 (by decide +kernel) rfl)⟩
theorem fl_Model_35 : FL R_Model 35 8 13 := ⟨_, rfl, by decide, rfl, Or.inl (wA 816 (by decide +kernel) rfl)⟩
theorem fl_Model_122 : FL R_Model 122 8 14 := ⟨_, rfl, by decide, rfl, Or.inl (wA 817 (by decide +kernel) rfl)⟩
theorem fl_Model_38 : FL R_Model 38 8 15 := ⟨_, rfl, by decide, rfl, Or.inl (wA 818 (by decide +kernel) rfl)⟩
theorem fl_Model_178 : FL R_Model 178 8 16 := ⟨_, rfl, by decide, rfl, Or.inl (wA 819 (by decide +kernel) rfl)⟩
theorem ac_char : Cond.arrayClass .char ∈ wsAll := wA 855 (by decide +kernel) rfl
theorem lk_Law_128 : LK "OneTuneNineLaw" 128 Y_Model_image := Or.inl (wA 856 (by decide +kernel) rfl)
theorem lk_Model_45 : LK R_Model 45 Y_Model_move := Or.inl (wA 860 (by decide +kernel) rfl)
theorem lk_Law_132 : LK "OneTuneNineLaw" 132 Y_Model_on := Or.inl (wA 863 (by decide +kernel) rfl)
theorem lk_Model_49 : LK R_Model 49 Y_Model_no := Or.inl (wA 867 (by decide +kernel) rfl)
theorem lk_Law_17 : LK "OneTuneNineLaw" 17 Y_Model_letter := Or.inl (wA 871 (by decide +kernel) rfl)
theorem lk_Law_22 : LK "OneTuneNineLaw" 22 Y_Model_canon := Or.inl (wA 875 (by decide +kernel) rfl)
theorem lk_Model_87 : LK R_Model 87 Y_Model_read := Or.inl (wA 879 (by decide +kernel) rfl)
theorem lk_Model_77 : LK R_Model 77 Y_Model_statement := Or.inl (wA 883 (by decide +kernel) rfl)
theorem lk_Model_63 : LK R_Model 63 Y_Model_oneOf := Or.inl (wA 887 (by decide +kernel) rfl)
theorem lk_Model_70 : LK R_Model 70 Y_Model_figures := Or.inl (wA 891 (by decide +kernel) rfl)
theorem lk_Model_73 : LK R_Model 73 Y_Model_expect := Or.inl (wA 895 (by decide +kernel) rfl)
theorem lk_Model_80 : LK R_Model 80 Y_Model_isAsItMustBe := Or.inl (wA 899 (by decide +kernel) rfl)
theorem lk_Model_84 : LK R_Model 84 Y_Model_come := Or.inl (wA 903 (by decide +kernel) rfl)
theorem lk_Law_27 : LK "OneTuneNineLaw" 27 Y_Model_note := Or.inl (wA 907 (by decide +kernel) rfl)
theorem lk_Model_137 : LK R_Model 137 Y_Model_isNoNote := Or.inl (wA 911 (by decide +kernel) rfl)
theorem lk_Model_91 : LK R_Model 91 Y_Model_firstBeat := Or.inl (wA 915 (by decide +kernel) rfl)
theorem lk_Law_31 : LK "OneTuneNineLaw" 31 Y_Model_voice := Or.inl (wA 919 (by decide +kernel) rfl)
theorem lk_Model_141 : LK R_Model 141 Y_Model_isNoVoice := Or.inl (wA 923 (by decide +kernel) rfl)
theorem lk_Model_100 : LK R_Model 100 Y_Model_roundOf := Or.inl (wA 927 (by decide +kernel) rfl)
theorem lk_Model_94 : LK R_Model 94 Y_Model_beats := Or.inl (wA 931 (by decide +kernel) rfl)
theorem lk_Model_111 : LK R_Model 111 Y_Model_endOf := Or.inl (wA 935 (by decide +kernel) rfl)
theorem lk_Law_35 : LK "OneTuneNineLaw" 35 Y_Model_pitch := Or.inl (wA 939 (by decide +kernel) rfl)
theorem lk_Model_144 : LK R_Model 144 Y_Model_become := Or.inl (wA 943 (by decide +kernel) rfl)
theorem lk_Law_39 : LK "OneTuneNineLaw" 39 Y_Model_enter := Or.inl (wA 947 (by decide +kernel) rfl)
theorem lk_Law_43 : LK "OneTuneNineLaw" 43 Y_Model_rounds := Or.inl (wA 951 (by decide +kernel) rfl)
theorem lk_Law_47 : LK "OneTuneNineLaw" 47 Y_Model_step := Or.inl (wA 955 (by decide +kernel) rfl)
theorem lk_Law_51 : LK "OneTuneNineLaw" 51 Y_Model_law := Or.inl (wA 959 (by decide +kernel) rfl)
theorem lk_Law_55 : LK "OneTuneNineLaw" 55 Y_Model_sound := Or.inl (wA 963 (by decide +kernel) rfl)
theorem cn_Model_147 : Cond.constant R_Model 147 1000000000 ∈ wsAll := wA 967 (by decide +kernel) rfl
theorem lk_Model_148 : LK R_Model 148 Y_Model_isWrong := Or.inl (wA 968 (by decide +kernel) rfl)
theorem lk_Model_125 : LK R_Model 125 Y_Model_soundAt := Or.inl (wA 971 (by decide +kernel) rfl)
theorem lk_Model_107 : LK R_Model 107 Y_Model_soundOf := Or.inl (wA 975 (by decide +kernel) rfl)
theorem lk_Model_103 : LK R_Model 103 Y_Model_said := Or.inl (wA 979 (by decide +kernel) rfl)
theorem lk_Model_97 : LK R_Model 97 Y_Model_plain := Or.inl (wA 983 (by decide +kernel) rfl)
theorem lk_Law_59 : LK "OneTuneNineLaw" 59 Y_Model_ill := Or.inl (wA 987 (by decide +kernel) rfl)
theorem lk_Model_134 : LK R_Model 134 Y_Model_illAt := Or.inl (wA 991 (by decide +kernel) rfl)
theorem lk_Model_128 : LK R_Model 128 Y_Model_agree := Or.inl (wA 995 (by decide +kernel) rfl)
theorem lm_Model_119 : Cond.methodLink R_Model 119 ⟨"java/lang/Math", "abs", "(I)I"⟩ ∈ wsAll := wA 999 (by decide +kernel) rfl
theorem lk_Law_63 : LK "OneTuneNineLaw" 63 Y_Model_first := Or.inl (wA 1000 (by decide +kernel) rfl)
theorem lk_Model_131 : LK R_Model 131 Y_Model_end := Or.inl (wA 1004 (by decide +kernel) rfl)
theorem lm_Model_114 : Cond.methodLink R_Model 114 ⟨"java/lang/Math", "max", "(II)I"⟩ ∈ wsAll := wA 1008 (by decide +kernel) rfl
theorem lk_Law_67 : LK "OneTuneNineLaw" 67 Y_Model_allIll := Or.inl (wA 1009 (by decide +kernel) rfl)
theorem lk_Model_152 : LK R_Model 152 Y_Model_illAll := Or.inl (wA 1013 (by decide +kernel) rfl)
theorem lk_Law_71 : LK "OneTuneNineLaw" 71 Y_Model_entries := Or.inl (wA 1017 (by decide +kernel) rfl)
theorem lk_Model_155 : LK R_Model 155 Y_Model_fitsAll := Or.inl (wA 1021 (by decide +kernel) rfl)
theorem lk_Law_75 : LK "OneTuneNineLaw" 75 Y_Model_added := Or.inl (wA 1025 (by decide +kernel) rfl)
theorem lk_Model_159 : LK R_Model 159 Y_Model_isWell := Or.inl (wA 1029 (by decide +kernel) rfl)
theorem lk_Law_79 : LK "OneTuneNineLaw" 79 Y_Model_silent := Or.inl (wA 1033 (by decide +kernel) rfl)
theorem lk_Law_83 : LK "OneTuneNineLaw" 83 Y_Model_changed := Or.inl (wA 1037 (by decide +kernel) rfl)
theorem lk_Model_163 : LK R_Model 163 Y_Model_oneChange := Or.inl (wA 1041 (by decide +kernel) rfl)
theorem lk_Model_166 : LK R_Model 166 Y_Model_isTwoChanges := Or.inl (wA 1045 (by decide +kernel) rfl)
theorem lk_Law_87 : LK "OneTuneNineLaw" 87 Y_Model_better := Or.inl (wA 1049 (by decide +kernel) rfl)
theorem lm_Model_169 : Cond.methodLink R_Model 169 ⟨"java/lang/Math", "min", "(II)I"⟩ ∈ wsAll := wA 1053 (by decide +kernel) rfl
theorem lk_Law_91 : LK "OneTuneNineLaw" 91 Y_Model_mirror := Or.inl (wA 1054 (by decide +kernel) rfl)
theorem lk_Law_96 : LK "OneTuneNineLaw" 96 Y_Model_agreeing := Or.inl (wA 1058 (by decide +kernel) rfl)
theorem cn_Model_172 : Cond.constantLong R_Model 172 4000000000000000000 ∈ wsAll := wA 1062 (by decide +kernel) rfl
theorem lk_Model_174 : LK R_Model 174 Y_Model_chains := Or.inl (wA 1063 (by decide +kernel) rfl)
theorem lk_Law_100 : LK "OneTuneNineLaw" 100 Y_Model_range := Or.inl (wA 1067 (by decide +kernel) rfl)
theorem lk_Law_104 : LK "OneTuneNineLaw" 104 Y_Model_stop := Or.inl (wA 1071 (by decide +kernel) rfl)
theorem lk_Law_108 : LK "OneTuneNineLaw" 108 Y_Model_unison := Or.inl (wA 1075 (by decide +kernel) rfl)
theorem lk_Law_112 : LK "OneTuneNineLaw" 112 Y_Model_row := Or.inl (wA 1079 (by decide +kernel) rfl)
theorem lk_Law_116 : LK "OneTuneNineLaw" 116 Y_Model_who := Or.inl (wA 1083 (by decide +kernel) rfl)
theorem lk_Model_181 : LK R_Model 181 Y_Model_unlike := Or.inl (wA 1087 (by decide +kernel) rfl)
theorem lk_Law_120 : LK "OneTuneNineLaw" 120 Y_Model_judge := Or.inl (wA 1091 (by decide +kernel) rfl)
theorem lk_Law_124 : LK "OneTuneNineLaw" 124 Y_Model_seeds := Or.inl (wA 1095 (by decide +kernel) rfl)
theorem cn_Model_184 : Cond.constant R_Model 184 1664525 ∈ wsAll := wA 1099 (by decide +kernel) rfl
theorem cn_Model_185 : Cond.constant R_Model 185 1013904223 ∈ wsAll := wA 1100 (by decide +kernel) rfl
theorem cn_Model_186 : Cond.constant R_Model 186 2147483647 ∈ wsAll := wA 1101 (by decide +kernel) rfl
theorem lk_Law_136 : LK "OneTuneNineLaw" 136 Y_Model_count := Or.inl (wA 1102 (by decide +kernel) rfl)
theorem mst_abs : Cond.static Lib.Math.abs.name ∈ wsAll := wA 527 (by decide +kernel) rfl
theorem mco_abs : Cond.code Lib.Math.abs.name Lib.Math.abs.code 1 (some .int) ∈ wsAll := wA 528 (by decide +kernel) rfl
theorem mst_max : Cond.static Lib.Math.max.name ∈ wsAll := wA 543 (by decide +kernel) rfl
theorem mco_max : Cond.code Lib.Math.max.name Lib.Math.max.code 2 (some .int) ∈ wsAll := wA 544 (by decide +kernel) rfl
theorem mst_min : Cond.static Lib.Math.min.name ∈ wsAll := wA 595 (by decide +kernel) rfl
theorem mco_min : Cond.code Lib.Math.min.name Lib.Math.min.code 2 (some .int) ∈ wsAll := wA 596 (by decide +kernel) rfl
theorem min_M : Cond.initialized "java/lang/Math" ∈ wsAll := wA 14 (by decide +kernel) rfl
theorem ob_i : Cond.instanceMethod objectInit ∈ wsAll := wA 21 (by decide +kernel) rfl
theorem ob_c : Cond.code objectInit ⟨#[0xb1]⟩ 1 none ∈ wsAll := wA 22 (by decide +kernel) rfl
end
section
/-! THE LOGIC OF FRAMES OVER ABSTRACT HEAPS. V says: the machine, at a frame of method Y whose locals, stack and heap are described, comes to a return with F. -/
/-- a cell of the law's own -/
def CellAt (G : Gx) (c : AC) (a : Nat) (H : Heap) : Prop := match c with
  | .inl o => ∃ r : vw_C, cl[o.1]? = some r ∧ t_OB a ((gD G).1 o.1) r.2.2 ((gD G).2 o.1) H (vp_V (cS G o.2))
  | .inr o => H[a]? = some (arrV (gA G o.1) o.2.length (fun j => if o.1 = 1 then .long (Int64.ofInt (o.2.getD j 0)) else .int (Int32.ofInt (o.2.getD j 0))))
def aty (t : Nat) : FieldType := match t with
  | 0 => .int
  | 1 => .long
  | _ => .char
def Rep (G : Gx) (h : AH) (H : Heap) : Prop :=
  100 ≤ h.1 ∧ gz G = (gH G).size ∧ H.size = gz G + (h.1 - 100) ∧ (∀ q, q < gz G → H[q]? = (gH G)[q]?) ∧ ∀ a c, h.2 a = some c → 100 ≤ a ∧ a < h.1 ∧ CellAt G c (Ad G a) H
/-- what is known of the String constants -/
def sIdx (i : Nat) : Nat := [41, 55, 57, 59, 61, 63].getD i 0
def sTx (i : Nat) : String := ["vbtsfx", "v@##,#;", "v@#,#;", "r##;", "w#;", "n##;"].getD i ""
def sLen : List Nat := [6, 7, 6, 4, 3, 4]
def sByt : List (List Int32) := [[118, 98, 116, 115, 102, 120], [118, 64, 35, 35, 44, 35, 59], [118, 64, 35, 44, 35, 59], [114, 35, 35, 59], [119, 35, 59], [110, 35, 35, 59]]
def sfm (U : State) (H : Heap) (z : Nat) : Prop := ∃ v : Value, va_Z "jdk/internal/util/Preconditions" "SIOOBE_FORMATTER" "Ljava/util/function/BiFunction;" v (fun q => z ≤ q) U H ∧ (v = .null ∨ ∃ a, v = .ref a)
/-- what the tables say at a state: the classes, the arrays' classes, the links between nest mates, the constants, the script -/
def KS (G : Gx) (s : State) : Prop :=
  va_K (gD G) cl [(gA G 0, .int), (gA G 1, .long), (gA G 2, .char)] s ∧ (∀ w ∈ nestAll, va_Nw w s) ∧ (∀ i, i < 6 → vk_R R_Text (sIdx i) (sTx i) (gS G (1 + i)) s) ∧
  vk_S 6 sLen sByt (fun i => gS G (1 + i)) (fun i => gS G (7 + i)) (fun q => gz G ≤ q) s (gH G) ∧ va_Z "java/lang/String" "COMPACT_STRINGS" "Z" (.int 1) (fun q => gz G ≤ q) s (gH G) ∧ sfm s (gH G) (gz G) ∧
  va_X (gS G 0) (gL G) (gX G) s (gH G) ∧ gS G 0 < gz G ∧ gL G ≤ 1536
theorem nest_warm {w : Cond} (hw : w ∈ nestAll) {s U : State} (hW : s.WarmedH U.vm) (h : va_Nw w s) : va_Nw w U := by
  simp only [nestAll, List.mem_cons, List.not_mem_nil, or_false] at hw
  rcases hw with rfl | rfl | rfl | rfl | rfl | rfl | rfl | rfl | rfl | rfl | rfl | rfl | rfl | rfl | rfl | rfl | rfl | rfl | rfl | rfl <;> first | exact va_Nw.warmF hW h | exact va_Nw.warmM hW h
theorem KS.warm {G : Gx} {s U : State} (hW : s.WarmedH U.vm) (h : KS G s) : KS G U := by
  obtain ⟨h1, h2, h3, h4, h5, ⟨v, h6, h6'⟩, h7, h8, h9⟩ := h
  exact ⟨va_K.moved hW.alike h1, fun w hw => nest_warm hw hW (h2 w hw), fun i hi => (h3 i hi).warm hW, h4.moved hW.alike, h5.moved hW.alike, ⟨v, h6.moved hW.alike, h6'⟩, h7.moved hW.alike, h8, h9⟩
theorem KS.same {G : Gx} {s U : State} (hW : s.vm = U.vm) (h : KS G s) : KS G U := by
  obtain ⟨h1, h2, h3, h4, h5, ⟨v, h6, h6'⟩, h7, h8, h9⟩ := h
  have ha : s.vm.Alike U.vm := by rw [hW]; exact Vm.Alike.refl _
  exact ⟨va_K.moved ha h1, fun w hw => va_Nw.same (nest_on w hw) hW (h2 w hw), fun i hi => (h3 i hi).same hW.symm, h4.moved ha, h5.moved ha, ⟨v, h6.moved ha, h6'⟩, h7.moved ha, h8, h9⟩
def VC (G : Gx) (Y : Yx) (p : Program) (s : State) (m : MethodId) (args : Array Value) (meth : Method) (c : Code) : Prop :=
  p.tables.exec = Jvm.exec ∧ c.code = Y.2.1 ∧ c.maxLocals = Y.2.2.1 ∧ meth.sig.returnType = Y.2.2.2 ∧ meth.locks = false ∧ s.vm.findClass Y.1.cls = some m.cls ∧ meth.name = Y.1.name ∧ (∀ w ∈ wsAll, w.before args s = true) ∧ KS G s
/-- the locals that are known, by their places -/
def prs (G : Gx) : Nat → List (Option AV) → List (Nat × Value)
  | _, [] => []
  | k, none :: t => prs G (k + 1) t
  | k, some v :: t => (k, cv G v) :: prs G (k + 1) t
theorem prs_mem {G : Gx} : ∀ (l : List (Option AV)) (k : Nat) (q : Nat × Value), q ∈ prs G k l ↔ ∃ i v, l[i]? = some (some v) ∧ q = (k + i, cv G v)
  | [], k, q => by simp [prs]
  | none :: t, k, q => by
    rw [prs, prs_mem t (k + 1) q]
    constructor
    · rintro ⟨i, v, h1, h2⟩
      exact ⟨i + 1, v, by simpa using h1, by rw [h2]; congr 1; omega⟩
    · rintro ⟨i, v, h1, h2⟩
      cases i with
      | zero => simp at h1
      | succ i => exact ⟨i, v, by simpa using h1, by rw [h2]; congr 1; omega⟩
  | some w :: t, k, q => by
    rw [prs, List.mem_cons, prs_mem t (k + 1) q]
    constructor
    · rintro (h | ⟨i, v, h1, h2⟩)
      · exact ⟨0, w, by simp, by rw [h]; rfl⟩
      · exact ⟨i + 1, v, by simpa using h1, by rw [h2]; congr 1; omega⟩
    · rintro ⟨i, v, h1, h2⟩
      cases i with
      | zero =>
        simp at h1
        subst h1
        exact Or.inl h2
      | succ i => exact Or.inr ⟨i, v, by simpa using h1, by rw [h2]; congr 1; omega⟩
def aLS (G : Gx) (ls : List (Option AV)) (lsC : Array Slot) (nL : Nat) : Prop := lv_has lsC nL (prs G 0 ls)
theorem aLS.at {G : Gx} {ls : List (Option AV)} {lsC : Array Slot} {nL i : Nat} {v : AV} (h : aLS G ls lsC nL) (hi : ls[i]? = some (some v)) : lsC[i]? = some (.val (cv G v)) :=
  h.2.2 (i, cv G v) ((prs_mem ls 0 _).mpr ⟨i, v, hi, by simp⟩)
def isL : Option AV → Bool
  | some (.inr (.inl _)) => true
  | _ => false
def killJ (x : Option AV) : Option AV := if isL x then none else x
/-- a value of one slot stored at a place -/
def st1 : Nat → AV → List (Option AV) → List (Option AV)
  | 0, v, _ :: t => some v :: t
  | 1, v, a :: _ :: t => killJ a :: some v :: t
  | i + 2, v, a :: t => a :: st1 (i + 1) v t
  | _, _, l => l
/-- a long stored at a place -/
def st2 : Nat → AV → List (Option AV) → List (Option AV)
  | 0, v, _ :: _ :: t => some v :: none :: t
  | 1, v, a :: _ :: _ :: t => killJ a :: some v :: none :: t
  | i + 2, v, a :: t => a :: st2 (i + 1) v t
  | _, _, l => l
theorem st1_get : ∀ (i : Nat) (v : AV) (l : List (Option AV)) (j : Nat) (w : AV), i < l.length → (st1 i v l)[j]? = some (some w) → (j = i ∧ w = v) ∨ (j ≠ i ∧ l[j]? = some (some w) ∧ ¬ (j + 1 = i ∧ isL (some w) = true))
  | 0, v, [], j, w, hi, h => by simp at hi
  | 0, v, a :: t, j, w, hi, h => by
    cases j with
    | zero => simp [st1] at h; exact Or.inl ⟨rfl, h.symm⟩
    | succ j => exact Or.inr ⟨by omega, by simpa [st1] using h, by omega⟩
  | 1, v, [], j, w, hi, h => by simp at hi
  | 1, v, [a], j, w, hi, h => by simp at hi
  | 1, v, a :: b :: t, j, w, hi, h => by
    match j, h with
    | 0, h =>
      refine Or.inr ⟨by omega, ?_, ?_⟩
      · simp only [st1, List.getElem?_cons_zero, Option.some.injEq, killJ] at h
        split at h
        · cases h
        · simp [h]
      · simp only [st1, List.getElem?_cons_zero, Option.some.injEq, killJ] at h
        split at h
        · cases h
        · rename_i hn
          rw [h] at hn
          exact fun q => hn q.2
    | 1, h => simp [st1] at h; exact Or.inl ⟨rfl, h.symm⟩
    | j + 2, h => exact Or.inr ⟨by omega, by simpa [st1] using h, by omega⟩
  | i + 2, v, [], j, w, hi, h => by simp at hi
  | i + 2, v, a :: t, j, w, hi, h => by
    cases j with
    | zero => exact Or.inr ⟨by omega, by simpa [st1] using h, by omega⟩
    | succ j =>
      have hi' : i + 1 < t.length := by simp at hi; omega
      have := st1_get (i + 1) v t j w hi' (by simpa [st1] using h)
      rcases this with ⟨e1, e2⟩ | ⟨e1, e2, e3⟩
      · exact Or.inl ⟨by omega, e2⟩
      · exact Or.inr ⟨by omega, by simpa using e2, fun q => e3 ⟨by omega, q.2⟩⟩
theorem isL_cat (G : Gx) (w : AV) : (cv G w).category == 2 ↔ isL (some w) = true := by
  rcases w with n | n | _ | a <;> simp [cv, Value.category, isL]
theorem aLS.st1 {G : Gx} {ls : List (Option AV)} {ls' : Array Slot} {nL i : Nat} {v : AV} (hi : i < ls.length)
    (h : lv_has ls' nL ((i, cv G v) :: (prs G 0 ls).filter (fun q => !(q.1 == i) && !(q.1 + 1 == i && q.2.category == 2)))) : aLS G (st1 i v ls) ls' nL := by
  refine ⟨h.1, h.2.1, fun q hq => ?_⟩
  obtain ⟨j, w, h1, rfl⟩ := (prs_mem _ 0 _).mp hq
  rw [Nat.zero_add]
  refine h.2.2 (j, cv G w) ?_
  rcases st1_get i v ls j w hi h1 with ⟨rfl, rfl⟩ | ⟨e1, e2, e3⟩
  · exact List.mem_cons_self
  · refine List.mem_cons_of_mem _ (List.mem_filter.mpr ⟨(prs_mem ls 0 _).mpr ⟨j, w, e2, by simp⟩, ?_⟩)
    simp only [Bool.and_eq_true, Bool.not_eq_true', beq_eq_false_iff_ne, ne_eq, Bool.and_eq_false_iff]
    refine ⟨e1, ?_⟩
    by_cases hj : j + 1 = i
    · right
      have : ¬ isL (some w) = true := fun q => e3 ⟨hj, q⟩
      have h2 := mt (isL_cat G w).mp this
      simpa using h2
    · left; exact hj
end
section
/-- how a method's instruction of return fits its type -/
def RetOK (G : Gx) (i : Instr) (ret : Option FieldType) (v : Option AV) : Prop := match v with
  | none => i = .return_ ∧ ret = none
  | some (.inl n) => i = .ireturn ∧ ∃ ty, ret = some ty ∧ narrow ty (.int (Int32.ofInt n)) = .int (Int32.ofInt n)
  | some (.inr (.inl _)) => i = .lreturn ∧ ret = some .long
  | some (.inr (.inr _)) => i = .areturn ∧ ∃ n, ret = some (.object n)
def VE (G : Gx) (Y : Yx) (p : Program) (l : Launch) (e : Env) (R : Room) (s : State) (m : MethodId) (args : Array Value) (below : List Frame) (meth : Method) (c : Code) (F : Option AV → AH → Prop) (Q : State → Prop) : Prop :=
  ∀ (v : Option AV) (h : AH) (H : Heap) (locs : List Loc) (cells slots pc : Nat) (lsC : Array Slot) (i : Instr), F v h → Rep G h H → (∀ q ∈ locs, gz G ≤ q.base) → cells ≤ R.cells → slots ≤ R.slots → decode Y.2.1 pc = .ok (i, 1) → RetOK G i Y.2.2.2 v →
    W p l e R s m args below meth c H locs cells slots Q (F0 m pc lsC (cS G v.toList))
/-- from a frame at pc with locals ls, stack st and heap h the method comes to a return with F; d levels of calls, rc cells and rs slots are at hand -/
def V (G : Gx) (Y : Yx) (d rc rs pc : Nat) (ls : List (Option AV)) (st : List AV) (h : AH) (F : Option AV → AH → Prop) : Prop :=
  ∀ (p : Program) (l : Launch) (e : Env) (R : Room) (s : State) (m : MethodId) (args : Array Value) (below : List Frame) (meth : Method) (c : Code) (Q : State → Prop),
    VC G Y p s m args meth c → VE G Y p l e R s m args below meth c F Q → d ≤ R.frames → 38 * d ≤ R.locals →
    ∀ (H : Heap) (locs : List Loc) (cells slots : Nat) (lsC : Array Slot), Rep G h H → (∀ q ∈ locs, gz G ≤ q.base) → cells + rc ≤ R.cells → slots + rs ≤ R.slots → aLS G ls lsC Y.2.2.1 →
      W p l e R s m args below meth c H locs cells slots Q (F0 m pc lsC (cS G st))
section VR
variable {G : Gx} {Y : Yx} {d rc rs pc : Nat} {ls : List (Option AV)} {st : List AV} {h : AH} {F : Option AV → AH → Prop}
theorem V.lift {pc' : Nat} {ls' : List (Option AV)} {st' : List AV}
    (H1 : ∀ (p : Program) (l : Launch) (e : Env) (R : Room) (s : State) (m : MethodId) (args : Array Value) (below : List Frame) (meth : Method) (c : Code) (H : Heap) (locs : List Loc) (cells slots : Nat) (Q : State → Prop) (lsC : Array Slot),
      VC G Y p s m args meth c → aLS G ls lsC Y.2.2.1 → cells ≤ R.cells → slots ≤ R.slots → d ≤ R.frames → 38 * d ≤ R.locals → (∀ lsC', aLS G ls' lsC' Y.2.2.1 → W p l e R s m args below meth c H locs cells slots Q (F0 m pc' lsC' (cS G st'))) → W p l e R s m args below meth c H locs cells slots Q (F0 m pc lsC (cS G st)))
    (k : V G Y d rc rs pc' ls' st' h F) : V G Y d rc rs pc ls st h F := by
  intro p l e R s m args below meth c Q hC hE hd hl H locs cells slots lsC hR hL hc hs hls
  exact H1 p l e R s m args below meth c H locs cells slots Q lsC hC hls (by omega) (by omega) hd hl (fun lsC' h' => k p l e R s m args below meth c Q hC hE hd hl H locs cells slots lsC' hR hL hc hs h')
theorem V.mono {F' : Option AV → AH → Prop} (hF : ∀ v h, F v h → F' v h) (k : V G Y d rc rs pc ls st h F) : V G Y d rc rs pc ls st h F' := by
  intro p l e R s m args below meth c Q hC hE
  exact k p l e R s m args below meth c Q hC (fun v h H locs cells slots pc lsC i hf => hE v h H locs cells slots pc lsC i (hF v h hf))
/-- fewer cells are asked -/
theorem V.less {rc' rs' : Nat} (h1 : rc ≤ rc') (h2 : rs ≤ rs') (k : V G Y d rc rs pc ls st h F) : V G Y d rc' rs' pc ls st h F := by
  intro p l e R s m args below meth c Q hC hE hd hl H locs cells slots lsC hR hL hc hs hls
  exact k p l e R s m args below meth c Q hC hE hd hl H locs cells slots lsC hR hL (by omega) (by omega) hls
/-- less is known of the locals -/
theorem V.wk (ls' : List (Option AV)) (hw : ∀ (i : Nat) (v : AV), ls'[i]? = some (some v) → ls[i]? = some (some v)) (k : V G Y d rc rs pc ls' st h F) : V G Y d rc rs pc ls st h F :=
  V.lift (fun p l e R s m args below meth c H locs cells slots Q lsC _ hls _ _ _ _ k => k lsC ⟨hls.1, hls.2.1, fun q hq => by
    obtain ⟨i, v, h1, rfl⟩ := (prs_mem _ 0 _).mp hq
    exact hls.2.2 _ ((prs_mem _ 0 _).mpr ⟨i, v, hw i v h1, rfl⟩)⟩) k
theorem v_iconst {n : Int} (hd : decode Y.2.1 pc = .ok (.iconst n, 1)) (k : V G Y d rc rs (pc + 1) ls (aI n :: st) h F) : V G Y d rc rs pc ls st h F :=
  V.lift (fun _ _ _ _ _ _ _ _ _ _ _ _ _ _ _ lsC hC hls _ _ _ _ k => lv_iconst hC.1 hC.2.1 hd rfl (k lsC hls)) k
theorem v_bipush {n : Int} (hd : decode Y.2.1 pc = .ok (.bipush n, 2)) (hn : -128 ≤ n ∧ n ≤ 127) (k : V G Y d rc rs (pc + 2) ls (aI n :: st) h F) : V G Y d rc rs pc ls st h F :=
  V.lift (fun _ _ _ _ _ _ _ _ _ _ _ _ _ _ _ lsC hC hls _ _ _ _ k => lv_bipush hC.1 hC.2.1 hd (v := Int32.ofInt n) (by
    apply Int32.toInt_inj.mp
    rw [Int8.toInt_toInt32, Int8.toInt_ofInt_of_le (by omega) (by omega), oi_toInt ⟨by omega, by omega⟩]) (k lsC hls)) k
theorem v_sipush {n : Int} (hd : decode Y.2.1 pc = .ok (.sipush n, 3)) (hn : -32768 ≤ n ∧ n ≤ 32767) (k : V G Y d rc rs (pc + 3) ls (aI n :: st) h F) : V G Y d rc rs pc ls st h F :=
  V.lift (fun _ _ _ _ _ _ _ _ _ _ _ _ _ _ _ lsC hC hls _ _ _ _ k => lv_sipush hC.1 hC.2.1 hd (v := Int32.ofInt n) (by
    apply Int32.toInt_inj.mp
    rw [Int16.toInt_toInt32, Int16.toInt_ofInt_of_le (by omega) (by omega), oi_toInt ⟨by omega, by omega⟩]) (k lsC hls)) k
theorem v_lconst {n : Fin 2} (hd : decode Y.2.1 pc = .ok (.lconst n, 1)) (k : V G Y d rc rs (pc + 1) ls (aJ (n : Nat) :: st) h F) : V G Y d rc rs pc ls st h F :=
  V.lift (fun _ _ _ _ _ _ _ _ _ _ _ _ _ _ _ lsC hC hls _ _ _ _ k => lv_lconst hC.1 hC.2.1 hd (v := Int64.ofInt (n : Nat)) (Int64.ofInt_eq_ofNat).symm (k lsC hls)) k
theorem v_iload_n {n : Fin 4} {x : Int} (hd : decode Y.2.1 pc = .ok (.iload_n n, 1)) (hl : ls[(n : Nat)]? = some (some (aI x))) (k : V G Y d rc rs (pc + 1) ls (aI x :: st) h F) : V G Y d rc rs pc ls st h F :=
  V.lift (fun _ _ _ _ _ _ _ _ _ _ _ _ _ _ _ lsC hC hls _ _ _ _ k => lv_iload_n hC.1 hC.2.1 hd rfl (hls.at hl) (k lsC hls)) k
theorem v_iload {n : Nat} {x : Int} (hd : decode Y.2.1 pc = .ok (.iload n, 2)) (hl : ls[n]? = some (some (aI x))) (k : V G Y d rc rs (pc + 2) ls (aI x :: st) h F) : V G Y d rc rs pc ls st h F :=
  V.lift (fun _ _ _ _ _ _ _ _ _ _ _ _ _ _ _ lsC hC hls _ _ _ _ k => lv_iload hC.1 hC.2.1 hd (hls.at hl) (k lsC hls)) k
theorem v_lload_n {n : Fin 4} {x : Int} (hd : decode Y.2.1 pc = .ok (.lload_n n, 1)) (hl : ls[(n : Nat)]? = some (some (aJ x))) (k : V G Y d rc rs (pc + 1) ls (aJ x :: st) h F) : V G Y d rc rs pc ls st h F :=
  V.lift (fun _ _ _ _ _ _ _ _ _ _ _ _ _ _ _ lsC hC hls _ _ _ _ k => lv_lload_n hC.1 hC.2.1 hd rfl (hls.at hl) (k lsC hls)) k
theorem v_lload {n : Nat} {x : Int} (hd : decode Y.2.1 pc = .ok (.lload n, 2)) (hl : ls[n]? = some (some (aJ x))) (k : V G Y d rc rs (pc + 2) ls (aJ x :: st) h F) : V G Y d rc rs pc ls st h F :=
  V.lift (fun _ _ _ _ _ _ _ _ _ _ _ _ _ _ _ lsC hC hls _ _ _ _ k => lv_lload hC.1 hC.2.1 hd (hls.at hl) (k lsC hls)) k
theorem v_aload_n {n : Fin 4} {x : Nat} (hd : decode Y.2.1 pc = .ok (.aload_n n, 1)) (hl : ls[(n : Nat)]? = some (some (aR x))) (k : V G Y d rc rs (pc + 1) ls (aR x :: st) h F) : V G Y d rc rs pc ls st h F :=
  V.lift (fun _ _ _ _ _ _ _ _ _ _ _ _ _ _ _ lsC hC hls _ _ _ _ k => lv_aload_n hC.1 hC.2.1 hd rfl (hls.at hl) (k lsC hls)) k
theorem v_aload {n : Nat} {x : Nat} (hd : decode Y.2.1 pc = .ok (.aload n, 2)) (hl : ls[n]? = some (some (aR x))) (k : V G Y d rc rs (pc + 2) ls (aR x :: st) h F) : V G Y d rc rs pc ls st h F :=
  V.lift (fun _ _ _ _ _ _ _ _ _ _ _ _ _ _ _ lsC hC hls _ _ _ _ k => lv_aload hC.1 hC.2.1 hd (hls.at hl) (k lsC hls)) k
/-- a null in a local -/
theorem v_aload_nN {n : Fin 4} (hd : decode Y.2.1 pc = .ok (.aload_n n, 1)) (hl : ls[(n : Nat)]? = some (some aN)) (k : V G Y d rc rs (pc + 1) ls (aN :: st) h F) : V G Y d rc rs pc ls st h F :=
  V.lift (fun _ _ _ _ _ _ _ _ _ _ _ _ _ _ _ lsC hC hls _ _ _ _ k => lv_aload_nN hC.1 hC.2.1 hd rfl (hls.at hl) (k lsC hls)) k
theorem v_istore_n {n : Fin 4} {x : Int} (hd : decode Y.2.1 pc = .ok (.istore_n n, 1)) (hn : (n : Nat) < Y.2.2.1 ∧ (n : Nat) < ls.length) (k : V G Y d rc rs (pc + 1) (st1 n (aI x) ls) st h F) : V G Y d rc rs pc ls (aI x :: st) h F :=
  V.lift (fun _ _ _ _ _ _ _ _ _ _ _ _ _ _ _ lsC hC hls _ _ _ _ k => lv_istore_n hC.1 hC.2.1 hd rfl hls hn.1 rfl (fun ls' h' => k ls' (aLS.st1 (v := aI x) hn.2 h'))) k
theorem v_istore {n : Nat} {x : Int} (hd : decode Y.2.1 pc = .ok (.istore n, 2)) (hn : n < Y.2.2.1 ∧ n < ls.length) (k : V G Y d rc rs (pc + 2) (st1 n (aI x) ls) st h F) : V G Y d rc rs pc ls (aI x :: st) h F :=
  V.lift (fun _ _ _ _ _ _ _ _ _ _ _ _ _ _ _ lsC hC hls _ _ _ _ k => lv_istore hC.1 hC.2.1 hd hls hn.1 rfl (fun ls' h' => k ls' (aLS.st1 (v := aI x) hn.2 h'))) k
theorem v_astore_n {n : Fin 4} {x : Nat} (hd : decode Y.2.1 pc = .ok (.astore_n n, 1)) (hn : (n : Nat) < Y.2.2.1 ∧ (n : Nat) < ls.length) (k : V G Y d rc rs (pc + 1) (st1 n (aR x) ls) st h F) : V G Y d rc rs pc ls (aR x :: st) h F :=
  V.lift (fun _ _ _ _ _ _ _ _ _ _ _ _ _ _ _ lsC hC hls _ _ _ _ k => lv_astore_n hC.1 hC.2.1 hd rfl hls hn.1 rfl (fun ls' h' => k ls' (aLS.st1 (v := aR x) hn.2 h'))) k
theorem v_astore {n : Nat} {x : Nat} (hd : decode Y.2.1 pc = .ok (.astore n, 2)) (hn : n < Y.2.2.1 ∧ n < ls.length) (k : V G Y d rc rs (pc + 2) (st1 n (aR x) ls) st h F) : V G Y d rc rs pc ls (aR x :: st) h F :=
  V.lift (fun _ _ _ _ _ _ _ _ _ _ _ _ _ _ _ lsC hC hls _ _ _ _ k => lv_astore hC.1 hC.2.1 hd hls hn.1 rfl (fun ls' h' => k ls' (aLS.st1 (v := aR x) hn.2 h'))) k
theorem v_iinc {n : Nat} {c x : Int} (hd : decode Y.2.1 pc = .ok (.iinc n c, 3)) (hl : ls[n]? = some (some (aI x))) (hn : n < Y.2.2.1) (k : V G Y d rc rs (pc + 3) (st1 n (aI (x + c)) ls) st h F) : V G Y d rc rs pc ls st h F :=
  V.lift (fun _ _ _ _ _ _ _ _ _ _ _ _ _ _ _ lsC hC hls _ _ _ _ k => by
    have hm : (n, cv G (aI x)) ∈ prs G 0 ls := (prs_mem ls 0 _).mpr ⟨n, _, hl, by simp⟩
    obtain ⟨kk, hk⟩ := List.getElem?_of_mem hm
    exact lv_iinc hC.1 hC.2.1 hd hls (k := kk) hk (v := Int32.ofInt (x + c)) (Int32.ofInt_add x c).symm hn rfl (fun ls' h' => k ls' (aLS.st1 (v := aI (x + c)) (List.getElem?_eq_some_iff.mp hl).1 h'))) k
theorem v_iadd {x y : Int} (hd : decode Y.2.1 pc = .ok (.iadd, 1)) (k : V G Y d rc rs (pc + 1) ls (aI (x + y) :: st) h F) : V G Y d rc rs pc ls (aI y :: aI x :: st) h F :=
  V.lift (fun _ _ _ _ _ _ _ _ _ _ _ _ _ _ _ lsC hC hls _ _ _ _ k => lv_iadd hC.1 hC.2.1 hd (by rw [← Int32.ofInt_add]; exact k lsC hls)) k
theorem v_isub {x y : Int} (hd : decode Y.2.1 pc = .ok (.isub, 1)) (k : V G Y d rc rs (pc + 1) ls (aI (x - y) :: st) h F) : V G Y d rc rs pc ls (aI y :: aI x :: st) h F :=
  V.lift (fun _ _ _ _ _ _ _ _ _ _ _ _ _ _ _ lsC hC hls _ _ _ _ k => lv_isub hC.1 hC.2.1 hd (by rw [← Int32.ofInt_sub]; exact k lsC hls)) k
theorem v_imul {x y : Int} (hd : decode Y.2.1 pc = .ok (.imul, 1)) (k : V G Y d rc rs (pc + 1) ls (aI (x * y) :: st) h F) : V G Y d rc rs pc ls (aI y :: aI x :: st) h F :=
  V.lift (fun _ _ _ _ _ _ _ _ _ _ _ _ _ _ _ lsC hC hls _ _ _ _ k => lv_imul hC.1 hC.2.1 hd (by rw [← Int32.ofInt_mul]; exact k lsC hls)) k
theorem v_ineg {x : Int} (hd : decode Y.2.1 pc = .ok (.ineg, 1)) (k : V G Y d rc rs (pc + 1) ls (aI (-x) :: st) h F) : V G Y d rc rs pc ls (aI x :: st) h F :=
  V.lift (fun _ _ _ _ _ _ _ _ _ _ _ _ _ _ _ lsC hC hls _ _ _ _ k => lv_ineg hC.1 hC.2.1 hd (by rw [Int32.neg_ofInt]; exact k lsC hls)) k
theorem v_idiv {x y : Int} (hd : decode Y.2.1 pc = .ok (.idiv, 1)) (hx : InR x) (hy : 0 < y ∧ y ≤ 2147483647) (k : V G Y d rc rs (pc + 1) ls (aI (x.tdiv y) :: st) h F) : V G Y d rc rs pc ls (aI y :: aI x :: st) h F :=
  V.lift (fun _ _ _ _ _ _ _ _ _ _ _ _ _ _ _ lsC hC hls _ _ _ _ k => lv_idiv hC.1 hC.2.1 hd (fun q => by have := (oi_eq (y := 0) ⟨by omega, hy.2⟩ InR0).mp q; omega) (by rw [oi_div hx hy.1 hy.2]; exact k lsC hls)) k
theorem v_irem {x y : Int} (hd : decode Y.2.1 pc = .ok (.irem, 1)) (hx : InR x) (hy : 0 < y ∧ y ≤ 2147483647) (k : V G Y d rc rs (pc + 1) ls (aI (x.tmod y) :: st) h F) : V G Y d rc rs pc ls (aI y :: aI x :: st) h F :=
  V.lift (fun _ _ _ _ _ _ _ _ _ _ _ _ _ _ _ lsC hC hls _ _ _ _ k => lv_irem hC.1 hC.2.1 hd (fun q => by have := (oi_eq (y := 0) ⟨by omega, hy.2⟩ InR0).mp q; omega) (by rw [oi_rem hx hy.1 hy.2]; exact k lsC hls)) k
theorem v_dup {v : AV} (hd : decode Y.2.1 pc = .ok (.dup, 1)) (hc : cat1 v = 1) (k : V G Y d rc rs (pc + 1) ls (v :: v :: st) h F) : V G Y d rc rs pc ls (v :: st) h F :=
  V.lift (fun _ _ _ _ _ _ _ _ _ _ _ _ _ _ _ lsC hC hls _ _ _ _ k => lv_dup hC.1 hC.2.1 hd (by rw [cat_cv]; exact hc) (k lsC hls)) k
theorem v_pop {v : AV} (hd : decode Y.2.1 pc = .ok (.pop, 1)) (hc : cat1 v = 1) (k : V G Y d rc rs (pc + 1) ls st h F) : V G Y d rc rs pc ls (v :: st) h F :=
  V.lift (fun _ _ _ _ _ _ _ _ _ _ _ _ _ _ _ lsC hC hls _ _ _ _ k => lv_pop hC.1 hC.2.1 hd (by rw [cat_cv]; exact hc) (k lsC hls)) k
theorem v_dup2 {v w : AV} (hd : decode Y.2.1 pc = .ok (.dup2, 1)) (hv : cat1 v = 1) (hw : cat1 w = 1) (k : V G Y d rc rs (pc + 1) ls (v :: w :: v :: w :: st) h F) : V G Y d rc rs pc ls (v :: w :: st) h F :=
  V.lift (fun _ _ _ _ _ _ _ _ _ _ _ _ _ _ _ lsC hC hls _ _ _ _ k => lv_dup2_11 hC.1 hC.2.1 hd (by rw [cat_cv]; exact hv) (by rw [cat_cv]; exact hw) (k lsC hls)) k
theorem v_goto {off : Int} {tgt : Nat} (hd : decode Y.2.1 pc = .ok (.goto off, 3)) (ht : (pc : Int) + off = (tgt : Int)) (k : V G Y d rc rs tgt ls st h F) : V G Y d rc rs pc ls st h F :=
  V.lift (fun _ _ _ _ _ _ _ _ _ _ _ _ _ _ _ lsC hC hls _ _ _ _ k => lv_goto hC.1 hC.2.1 hd ht (k lsC hls)) k
/-! branches: each is split at the level of V -/
theorem v_ifeq {x : Int} {off : Int} (tgt : Nat) (hd : decode Y.2.1 pc = .ok (.ifCond .eq off, 3)) (ht : (pc : Int) + off = (tgt : Int)) (hx : InR x) (kt : x = 0 → V G Y d rc rs tgt ls st h F) (kf : ¬ (x = 0) → V G Y d rc rs (pc + 3) ls st h F) : V G Y d rc rs pc ls (aI x :: st) h F := by
  by_cases hb : x = 0
  · exact V.lift (fun _ _ _ _ _ _ _ _ _ _ _ _ _ _ _ lsC hC hls _ _ _ _ k => lv_if_eq hC.1 hC.2.1 hd ht (fun _ => k lsC hls) (fun q => absurd ((oi_eq (y := 0) hx InR0).mpr hb) q)) (kt hb)
  · exact V.lift (fun _ _ _ _ _ _ _ _ _ _ _ _ _ _ _ lsC hC hls _ _ _ _ k => lv_if_eq hC.1 hC.2.1 hd ht (fun q => absurd ((oi_eq (y := 0) hx InR0).mp q) hb) (fun _ => k lsC hls)) (kf hb)
theorem v_ifne {x : Int} {off : Int} (tgt : Nat) (hd : decode Y.2.1 pc = .ok (.ifCond .ne off, 3)) (ht : (pc : Int) + off = (tgt : Int)) (hx : InR x) (kt : ¬ x = 0 → V G Y d rc rs tgt ls st h F) (kf : ¬ (¬ x = 0) → V G Y d rc rs (pc + 3) ls st h F) : V G Y d rc rs pc ls (aI x :: st) h F := by
  by_cases hb : ¬ x = 0
  · exact V.lift (fun _ _ _ _ _ _ _ _ _ _ _ _ _ _ _ lsC hC hls _ _ _ _ k => lv_if_ne hC.1 hC.2.1 hd ht (fun _ => k lsC hls) (fun q => ((not_congr (oi_eq (y := 0) hx InR0)).mpr hb q).elim)) (kt hb)
  · exact V.lift (fun _ _ _ _ _ _ _ _ _ _ _ _ _ _ _ lsC hC hls _ _ _ _ k => lv_if_ne hC.1 hC.2.1 hd ht (fun q => absurd ((not_congr (oi_eq (y := 0) hx InR0)).mp q) hb) (fun _ => k lsC hls)) (kf hb)
theorem v_iflt {x : Int} {off : Int} (tgt : Nat) (hd : decode Y.2.1 pc = .ok (.ifCond .lt off, 3)) (ht : (pc : Int) + off = (tgt : Int)) (hx : InR x) (kt : x < 0 → V G Y d rc rs tgt ls st h F) (kf : ¬ (x < 0) → V G Y d rc rs (pc + 3) ls st h F) : V G Y d rc rs pc ls (aI x :: st) h F := by
  by_cases hb : x < 0
  · exact V.lift (fun _ _ _ _ _ _ _ _ _ _ _ _ _ _ _ lsC hC hls _ _ _ _ k => lv_if_lt hC.1 hC.2.1 hd ht (fun _ => k lsC hls) (fun q => absurd ((oi_lt (y := 0) hx InR0).mpr hb) q)) (kt hb)
  · exact V.lift (fun _ _ _ _ _ _ _ _ _ _ _ _ _ _ _ lsC hC hls _ _ _ _ k => lv_if_lt hC.1 hC.2.1 hd ht (fun q => absurd ((oi_lt (y := 0) hx InR0).mp q) hb) (fun _ => k lsC hls)) (kf hb)
theorem v_ifge {x : Int} {off : Int} (tgt : Nat) (hd : decode Y.2.1 pc = .ok (.ifCond .ge off, 3)) (ht : (pc : Int) + off = (tgt : Int)) (hx : InR x) (kt : 0 ≤ x → V G Y d rc rs tgt ls st h F) (kf : ¬ (0 ≤ x) → V G Y d rc rs (pc + 3) ls st h F) : V G Y d rc rs pc ls (aI x :: st) h F := by
  by_cases hb : 0 ≤ x
  · exact V.lift (fun _ _ _ _ _ _ _ _ _ _ _ _ _ _ _ lsC hC hls _ _ _ _ k => lv_if_ge hC.1 hC.2.1 hd ht (fun _ => k lsC hls) (fun q => absurd ((oi_le (x := 0) InR0 hx).mpr hb) q)) (kt hb)
  · exact V.lift (fun _ _ _ _ _ _ _ _ _ _ _ _ _ _ _ lsC hC hls _ _ _ _ k => lv_if_ge hC.1 hC.2.1 hd ht (fun q => absurd ((oi_le (x := 0) InR0 hx).mp q) hb) (fun _ => k lsC hls)) (kf hb)
theorem v_ifgt {x : Int} {off : Int} (tgt : Nat) (hd : decode Y.2.1 pc = .ok (.ifCond .gt off, 3)) (ht : (pc : Int) + off = (tgt : Int)) (hx : InR x) (kt : 0 < x → V G Y d rc rs tgt ls st h F) (kf : ¬ (0 < x) → V G Y d rc rs (pc + 3) ls st h F) : V G Y d rc rs pc ls (aI x :: st) h F := by
  by_cases hb : 0 < x
  · exact V.lift (fun _ _ _ _ _ _ _ _ _ _ _ _ _ _ _ lsC hC hls _ _ _ _ k => lv_if_gt hC.1 hC.2.1 hd ht (fun _ => k lsC hls) (fun q => absurd ((oi_lt (x := 0) InR0 hx).mpr hb) q)) (kt hb)
  · exact V.lift (fun _ _ _ _ _ _ _ _ _ _ _ _ _ _ _ lsC hC hls _ _ _ _ k => lv_if_gt hC.1 hC.2.1 hd ht (fun q => absurd ((oi_lt (x := 0) InR0 hx).mp q) hb) (fun _ => k lsC hls)) (kf hb)
theorem v_ifle {x : Int} {off : Int} (tgt : Nat) (hd : decode Y.2.1 pc = .ok (.ifCond .le off, 3)) (ht : (pc : Int) + off = (tgt : Int)) (hx : InR x) (kt : x ≤ 0 → V G Y d rc rs tgt ls st h F) (kf : ¬ (x ≤ 0) → V G Y d rc rs (pc + 3) ls st h F) : V G Y d rc rs pc ls (aI x :: st) h F := by
  by_cases hb : x ≤ 0
  · exact V.lift (fun _ _ _ _ _ _ _ _ _ _ _ _ _ _ _ lsC hC hls _ _ _ _ k => lv_if_le hC.1 hC.2.1 hd ht (fun _ => k lsC hls) (fun q => absurd ((oi_le (y := 0) hx InR0).mpr hb) q)) (kt hb)
  · exact V.lift (fun _ _ _ _ _ _ _ _ _ _ _ _ _ _ _ lsC hC hls _ _ _ _ k => lv_if_le hC.1 hC.2.1 hd ht (fun q => absurd ((oi_le (y := 0) hx InR0).mp q) hb) (fun _ => k lsC hls)) (kf hb)
theorem v_iceq {x y : Int} {off : Int} (tgt : Nat) (hd : decode Y.2.1 pc = .ok (.if_icmp .eq off, 3)) (ht : (pc : Int) + off = (tgt : Int)) (hx : InR x) (hy : InR y) (kt : x = y → V G Y d rc rs tgt ls st h F) (kf : ¬ (x = y) → V G Y d rc rs (pc + 3) ls st h F) : V G Y d rc rs pc ls (aI y :: aI x :: st) h F := by
  by_cases hb : x = y
  · exact V.lift (fun _ _ _ _ _ _ _ _ _ _ _ _ _ _ _ lsC hC hls _ _ _ _ k => lv_icmp_eq hC.1 hC.2.1 hd ht (fun _ => k lsC hls) (fun q => absurd ((oi_eq hx hy).mpr hb) q)) (kt hb)
  · exact V.lift (fun _ _ _ _ _ _ _ _ _ _ _ _ _ _ _ lsC hC hls _ _ _ _ k => lv_icmp_eq hC.1 hC.2.1 hd ht (fun q => absurd ((oi_eq hx hy).mp q) hb) (fun _ => k lsC hls)) (kf hb)
theorem v_icne {x y : Int} {off : Int} (tgt : Nat) (hd : decode Y.2.1 pc = .ok (.if_icmp .ne off, 3)) (ht : (pc : Int) + off = (tgt : Int)) (hx : InR x) (hy : InR y) (kt : ¬ x = y → V G Y d rc rs tgt ls st h F) (kf : ¬ (¬ x = y) → V G Y d rc rs (pc + 3) ls st h F) : V G Y d rc rs pc ls (aI y :: aI x :: st) h F := by
  by_cases hb : ¬ x = y
  · exact V.lift (fun _ _ _ _ _ _ _ _ _ _ _ _ _ _ _ lsC hC hls _ _ _ _ k => lv_icmp_ne hC.1 hC.2.1 hd ht (fun _ => k lsC hls) (fun q => ((not_congr (oi_eq hx hy)).mpr hb q).elim)) (kt hb)
  · exact V.lift (fun _ _ _ _ _ _ _ _ _ _ _ _ _ _ _ lsC hC hls _ _ _ _ k => lv_icmp_ne hC.1 hC.2.1 hd ht (fun q => absurd ((not_congr (oi_eq hx hy)).mp q) hb) (fun _ => k lsC hls)) (kf hb)
theorem v_iclt {x y : Int} {off : Int} (tgt : Nat) (hd : decode Y.2.1 pc = .ok (.if_icmp .lt off, 3)) (ht : (pc : Int) + off = (tgt : Int)) (hx : InR x) (hy : InR y) (kt : x < y → V G Y d rc rs tgt ls st h F) (kf : ¬ (x < y) → V G Y d rc rs (pc + 3) ls st h F) : V G Y d rc rs pc ls (aI y :: aI x :: st) h F := by
  by_cases hb : x < y
  · exact V.lift (fun _ _ _ _ _ _ _ _ _ _ _ _ _ _ _ lsC hC hls _ _ _ _ k => lv_icmp_lt hC.1 hC.2.1 hd ht (fun _ => k lsC hls) (fun q => absurd ((oi_lt hx hy).mpr hb) q)) (kt hb)
  · exact V.lift (fun _ _ _ _ _ _ _ _ _ _ _ _ _ _ _ lsC hC hls _ _ _ _ k => lv_icmp_lt hC.1 hC.2.1 hd ht (fun q => absurd ((oi_lt hx hy).mp q) hb) (fun _ => k lsC hls)) (kf hb)
theorem v_icge {x y : Int} {off : Int} (tgt : Nat) (hd : decode Y.2.1 pc = .ok (.if_icmp .ge off, 3)) (ht : (pc : Int) + off = (tgt : Int)) (hx : InR x) (hy : InR y) (kt : y ≤ x → V G Y d rc rs tgt ls st h F) (kf : ¬ (y ≤ x) → V G Y d rc rs (pc + 3) ls st h F) : V G Y d rc rs pc ls (aI y :: aI x :: st) h F := by
  by_cases hb : y ≤ x
  · exact V.lift (fun _ _ _ _ _ _ _ _ _ _ _ _ _ _ _ lsC hC hls _ _ _ _ k => lv_icmp_ge hC.1 hC.2.1 hd ht (fun _ => k lsC hls) (fun q => absurd ((oi_le hy hx).mpr hb) q)) (kt hb)
  · exact V.lift (fun _ _ _ _ _ _ _ _ _ _ _ _ _ _ _ lsC hC hls _ _ _ _ k => lv_icmp_ge hC.1 hC.2.1 hd ht (fun q => absurd ((oi_le hy hx).mp q) hb) (fun _ => k lsC hls)) (kf hb)
theorem v_icgt {x y : Int} {off : Int} (tgt : Nat) (hd : decode Y.2.1 pc = .ok (.if_icmp .gt off, 3)) (ht : (pc : Int) + off = (tgt : Int)) (hx : InR x) (hy : InR y) (kt : y < x → V G Y d rc rs tgt ls st h F) (kf : ¬ (y < x) → V G Y d rc rs (pc + 3) ls st h F) : V G Y d rc rs pc ls (aI y :: aI x :: st) h F := by
  by_cases hb : y < x
  · exact V.lift (fun _ _ _ _ _ _ _ _ _ _ _ _ _ _ _ lsC hC hls _ _ _ _ k => lv_icmp_gt hC.1 hC.2.1 hd ht (fun _ => k lsC hls) (fun q => absurd ((oi_lt hy hx).mpr hb) q)) (kt hb)
  · exact V.lift (fun _ _ _ _ _ _ _ _ _ _ _ _ _ _ _ lsC hC hls _ _ _ _ k => lv_icmp_gt hC.1 hC.2.1 hd ht (fun q => absurd ((oi_lt hy hx).mp q) hb) (fun _ => k lsC hls)) (kf hb)
theorem v_icle {x y : Int} {off : Int} (tgt : Nat) (hd : decode Y.2.1 pc = .ok (.if_icmp .le off, 3)) (ht : (pc : Int) + off = (tgt : Int)) (hx : InR x) (hy : InR y) (kt : x ≤ y → V G Y d rc rs tgt ls st h F) (kf : ¬ (x ≤ y) → V G Y d rc rs (pc + 3) ls st h F) : V G Y d rc rs pc ls (aI y :: aI x :: st) h F := by
  by_cases hb : x ≤ y
  · exact V.lift (fun _ _ _ _ _ _ _ _ _ _ _ _ _ _ _ lsC hC hls _ _ _ _ k => lv_icmp_le hC.1 hC.2.1 hd ht (fun _ => k lsC hls) (fun q => absurd ((oi_le hx hy).mpr hb) q)) (kt hb)
  · exact V.lift (fun _ _ _ _ _ _ _ _ _ _ _ _ _ _ _ lsC hC hls _ _ _ _ k => lv_icmp_le hC.1 hC.2.1 hd ht (fun q => absurd ((oi_le hx hy).mp q) hb) (fun _ => k lsC hls)) (kf hb)
/-- the same number twice -/
theorem v_iceq_same {x : Int} {off : Int} (tgt : Nat) (hd : decode Y.2.1 pc = .ok (.if_icmp .eq off, 3)) (ht : (pc : Int) + off = (tgt : Int)) (kt : V G Y d rc rs tgt ls st h F) : V G Y d rc rs pc ls (aI x :: aI x :: st) h F :=
  V.lift (fun _ _ _ _ _ _ _ _ _ _ _ _ _ _ _ lsC hC hls hc hs hdd hll k => lv_icmp_eq hC.1 hC.2.1 hd ht (fun _ => k lsC hls) (fun q => absurd rfl q)) kt
theorem v_ifnull {a : Nat} {off : Int} (hd : decode Y.2.1 pc = .ok (.ifnull off, 3)) (k : V G Y d rc rs (pc + 3) ls st h F) : V G Y d rc rs pc ls (aR a :: st) h F :=
  V.lift (fun _ _ _ _ _ _ _ _ _ _ _ _ _ _ _ lsC hC hls hc hs hdd hll k => lv_ifnull hC.1 hC.2.1 hd (k lsC hls)) k
theorem v_ifnonnull {a : Nat} {off : Int} (tgt : Nat) (hd : decode Y.2.1 pc = .ok (.ifnonnull off, 3)) (ht : (pc : Int) + off = (tgt : Int)) (k : V G Y d rc rs tgt ls st h F) : V G Y d rc rs pc ls (aR a :: st) h F :=
  V.lift (fun _ _ _ _ _ _ _ _ _ _ _ _ _ _ _ lsC hC hls hc hs hdd hll k => lv_ifnonnull hC.1 hC.2.1 hd ht (k lsC hls)) k
theorem v_lookup {dflt : Int} {ps : Array (Int × Int)} {len : Nat} {x : Int} {off : Int} (tgt : Nat) (hd : decode Y.2.1 pc = .ok (.lookupswitch dflt ps, len)) (hx : InR x) (hp : (ps.toList.zip (ps.toList.drop 1)).all (fun (a, next) => a.1 < next.1) = true) (ho : Op.lookupswitch.offset ps.toList dflt x = off) (ht : (pc : Int) + off = (tgt : Int)) (k : V G Y d rc rs tgt ls st h F) : V G Y d rc rs pc ls (aI x :: st) h F :=
  V.lift (fun _ _ _ _ _ _ _ _ _ _ _ _ _ _ _ lsC hC hls hc hs hdd hll k => lv_lookup hC.1 hC.2.1 hd hp (by rw [oi_toInt hx]; exact ho) ht (k lsC hls)) k
theorem v_tableOut {dflt lo hi : Int} {offs : Array Int} {len : Nat} {x : Int} (tgt : Nat) (hd : decode Y.2.1 pc = .ok (.tableswitch dflt lo hi offs, len)) (hx : InR x) (hb : x < lo ∨ hi < x) (ht : (pc : Int) + dflt = (tgt : Int)) (k : V G Y d rc rs tgt ls st h F) : V G Y d rc rs pc ls (aI x :: st) h F :=
  V.lift (fun _ _ _ _ _ _ _ _ _ _ _ _ _ _ _ lsC hC hls hc hs hdd hll k => lv_tableOut hC.1 hC.2.1 hd (by rw [oi_toInt hx]; exact hb) ht (k lsC hls)) k
theorem v_tableIn {dflt lo hi : Int} {offs : Array Int} {len : Nat} {x : Int} {off : Int} (tgt : Nat) (hd : decode Y.2.1 pc = .ok (.tableswitch dflt lo hi offs, len)) (hx : InR x) (h1 : lo ≤ x) (h2 : x ≤ hi) (ho : offs[(x - lo).toNat]? = some off) (ht : (pc : Int) + off = (tgt : Int)) (k : V G Y d rc rs tgt ls st h F) : V G Y d rc rs pc ls (aI x :: st) h F :=
  V.lift (fun _ _ _ _ _ _ _ _ _ _ _ _ _ _ _ lsC hC hls hc hs hdd hll k => lv_tableIn hC.1 hC.2.1 hd (by rw [oi_toInt hx]; omega) (by rw [oi_toInt hx]; omega) (by rw [oi_toInt hx]; exact ho) ht (k lsC hls)) k
theorem v_ladd {x y : Int} (hd : decode Y.2.1 pc = .ok (.ladd, 1)) (k : V G Y d rc rs (pc + 1) ls (aJ (x + y) :: st) h F) : V G Y d rc rs pc ls (aJ y :: aJ x :: st) h F :=
  V.lift (fun _ _ _ _ _ _ _ _ _ _ _ _ _ _ _ lsC hC hls hc hs hdd hll k => lv_ladd hC.1 hC.2.1 hd (by rw [← Int64.ofInt_add]; exact k lsC hls)) k
theorem v_lsub {x y : Int} (hd : decode Y.2.1 pc = .ok (.lsub, 1)) (k : V G Y d rc rs (pc + 1) ls (aJ (x - y) :: st) h F) : V G Y d rc rs pc ls (aJ y :: aJ x :: st) h F :=
  V.lift (fun _ _ _ _ _ _ _ _ _ _ _ _ _ _ _ lsC hC hls hc hs hdd hll k => lv_lsub hC.1 hC.2.1 hd (by rw [← Int64.ofInt_sub]; exact k lsC hls)) k
theorem v_lmul {x y : Int} (hd : decode Y.2.1 pc = .ok (.lmul, 1)) (k : V G Y d rc rs (pc + 1) ls (aJ (x * y) :: st) h F) : V G Y d rc rs pc ls (aJ y :: aJ x :: st) h F :=
  V.lift (fun _ _ _ _ _ _ _ _ _ _ _ _ _ _ _ lsC hC hls hc hs hdd hll k => lv_lmul hC.1 hC.2.1 hd (by rw [← Int64.ofInt_mul]; exact k lsC hls)) k
theorem v_i2l {x : Int} (hd : decode Y.2.1 pc = .ok (.i2l, 1)) (hx : InR x) (k : V G Y d rc rs (pc + 1) ls (aJ x :: st) h F) : V G Y d rc rs pc ls (aI x :: st) h F :=
  V.lift (fun _ _ _ _ _ _ _ _ _ _ _ _ _ _ _ lsC hC hls hc hs hdd hll k => lv_i2l hC.1 hC.2.1 hd (v := Int64.ofInt x) (Int32.toInt64_ofInt (show Int32.minValue.toInt ≤ x from hx.1) (show x ≤ Int32.maxValue.toInt from hx.2)) (k lsC hls)) k
theorem v_lcmp_same {x : Int} (hd : decode Y.2.1 pc = .ok (.lcmp, 1)) (k : V G Y d rc rs (pc + 1) ls (aI 0 :: st) h F) : V G Y d rc rs pc ls (aJ x :: aJ x :: st) h F :=
  V.lift (fun _ _ _ _ _ _ _ _ _ _ _ _ _ _ _ lsC hC hls hc hs hdd hll k => W.lcmp hC.1 hC.2.1 hd (by rw [show lg_cmp (Int64.ofInt x) (Int64.ofInt x) = Int32.ofInt 0 by simp [lg_cmp]]; exact k lsC hls)) k
theorem st2_get : ∀ (i : Nat) (v : AV) (l : List (Option AV)) (j : Nat) (w : AV), i + 1 < l.length → (st2 i v l)[j]? = some (some w) → (j = i ∧ w = v) ∨ (j ≠ i ∧ j ≠ i + 1 ∧ l[j]? = some (some w) ∧ ¬ (j + 1 = i ∧ isL (some w) = true))
  | 0, v, [], j, w, hi, h => by simp at hi
  | 0, v, [a], j, w, hi, h => by simp at hi
  | 0, v, a :: b :: t, j, w, hi, h => by
    match j, h with
    | 0, h => simp [st2] at h; exact Or.inl ⟨rfl, h.symm⟩
    | 1, h => simp [st2] at h
    | j + 2, h => exact Or.inr ⟨by omega, by omega, by simpa [st2] using h, by omega⟩
  | 1, v, [], j, w, hi, h => by simp at hi
  | 1, v, [a], j, w, hi, h => by simp at hi
  | 1, v, [a, b], j, w, hi, h => by simp at hi
  | 1, v, a :: b :: c :: t, j, w, hi, h => by
    match j, h with
    | 0, h =>
      simp only [st2, List.getElem?_cons_zero, Option.some.injEq, killJ] at h
      split at h
      · cases h
      · rename_i hn
        rw [h] at hn
        exact Or.inr ⟨by omega, by omega, by simp [h], fun q => hn q.2⟩
    | 1, h => simp [st2] at h; exact Or.inl ⟨rfl, h.symm⟩
    | 2, h => simp [st2] at h
    | j + 3, h => exact Or.inr ⟨by omega, by omega, by simpa [st2] using h, by omega⟩
  | i + 2, v, [], j, w, hi, h => by simp at hi
  | i + 2, v, a :: t, j, w, hi, h => by
    cases j with
    | zero => exact Or.inr ⟨by omega, by omega, by simpa [st2] using h, by omega⟩
    | succ j =>
      have hi' : i + 1 + 1 < t.length := by simp at hi; omega
      have := st2_get (i + 1) v t j w hi' (by simpa [st2] using h)
      rcases this with ⟨e1, e2⟩ | ⟨e1, e0, e2, e3⟩
      · exact Or.inl ⟨by omega, e2⟩
      · exact Or.inr ⟨by omega, by omega, by simpa using e2, fun q => e3 ⟨by omega, q.2⟩⟩
theorem aLS.st2 {G : Gx} {ls : List (Option AV)} {ls' : Array Slot} {nL i : Nat} {v : AV} (hi : i + 1 < ls.length)
    (h : lv_has ls' nL ((i, cv G v) :: (prs G 0 ls).filter (fun q => !(q.1 == i) && (!(q.1 == i + 1) && !(q.1 + 1 == i && q.2.category == 2))))) : aLS G (st2 i v ls) ls' nL := by
  refine ⟨h.1, h.2.1, fun q hq => ?_⟩
  obtain ⟨j, w, h1, rfl⟩ := (prs_mem _ 0 _).mp hq
  rw [Nat.zero_add]
  refine h.2.2 (j, cv G w) ?_
  rcases st2_get i v ls j w hi h1 with ⟨rfl, rfl⟩ | ⟨e1, e0, e2, e3⟩
  · exact List.mem_cons_self
  · refine List.mem_cons_of_mem _ (List.mem_filter.mpr ⟨(prs_mem ls 0 _).mpr ⟨j, w, e2, by simp⟩, ?_⟩)
    simp only [Bool.and_eq_true, Bool.not_eq_true', beq_eq_false_iff_ne, ne_eq, Bool.and_eq_false_iff]
    refine ⟨e1, e0, ?_⟩
    by_cases hj : j + 1 = i
    · right
      have : ¬ isL (some w) = true := fun q => e3 ⟨hj, q⟩
      have h2 := mt (isL_cat G w).mp this
      simpa using h2
    · left; exact hj
theorem v_lstore_n {n : Fin 4} {x : Int} (hd : decode Y.2.1 pc = .ok (.lstore_n n, 1)) (hn : (n : Nat) + 1 < Y.2.2.1 ∧ (n : Nat) + 1 < ls.length) (k : V G Y d rc rs (pc + 1) (st2 n (aJ x) ls) st h F) : V G Y d rc rs pc ls (aJ x :: st) h F :=
  V.lift (fun _ _ _ _ _ _ _ _ _ _ _ _ _ _ _ lsC hC hls hc hs hdd hll k => lv_lstore_n hC.1 hC.2.1 hd rfl hls hn.1 rfl (fun ls' h' => k ls' (aLS.st2 (v := aJ x) hn.2 h'))) k
theorem v_lstore {n : Nat} {x : Int} (hd : decode Y.2.1 pc = .ok (.lstore n, 2)) (hn : n + 1 < Y.2.2.1 ∧ n + 1 < ls.length) (k : V G Y d rc rs (pc + 2) (st2 n (aJ x) ls) st h F) : V G Y d rc rs pc ls (aJ x :: st) h F :=
  V.lift (fun _ _ _ _ _ _ _ _ _ _ _ _ _ _ _ lsC hC hls hc hs hdd hll k => lv_lstore hC.1 hC.2.1 hd hls hn.1 rfl (fun ls' h' => k ls' (aLS.st2 (v := aJ x) hn.2 h'))) k
theorem v_ldc {v : Int32} {x : Int} {idx : Nat} (hw : Cond.constant Y.1.cls idx v ∈ wsAll) (hd : decode Y.2.1 pc = .ok (.ldc idx, 2)) (hx : Int32.ofInt x = v) (k : V G Y d rc rs (pc + 2) ls (aI x :: st) h F) : V G Y d rc rs pc ls st h F :=
  V.lift (fun _ _ _ _ _ _ _ _ _ _ _ _ _ _ _ lsC hC hls hc hs hdd hll k => lv_ldc hC.1 hC.2.1 hC.2.2.2.2.2.1 (hC.2.2.2.2.2.2.2.1 _ hw) hd (by rw [← hx]; exact k lsC hls)) k
theorem v_ldc2 {v : Int64} {x : Int} {idx : Nat} (hw : Cond.constantLong Y.1.cls idx v ∈ wsAll) (hd : decode Y.2.1 pc = .ok (.ldc2_w idx, 3)) (hx : Int64.ofInt x = v) (k : V G Y d rc rs (pc + 3) ls (aJ x :: st) h F) : V G Y d rc rs pc ls st h F :=
  V.lift (fun _ _ _ _ _ _ _ _ _ _ _ _ _ _ _ lsC hC hls hc hs hdd hll k => lv_ldc2 hC.1 hC.2.1 hC.2.2.2.2.2.1 (hC.2.2.2.2.2.2.2.1 _ hw) hd (by rw [← hx]; exact k lsC hls)) k
/-- a String constant -/
theorem v_ldcS {i idx : Nat} (hY : Y.1.cls = R_Text) (hi : i < 6) (he : sIdx i = idx) (hd : decode Y.2.1 pc = .ok (.ldc idx, 2)) (k : V G Y d rc rs (pc + 2) ls (aR (1 + i) :: st) h F) : V G Y d rc rs pc ls st h F :=
  V.lift (fun _ _ _ _ _ _ _ _ _ _ _ _ _ _ _ lsC hC hls hc hs hdd hll k => by
    have hz := hC.2.2.2.2.2.2.2.2.2.2.1 i hi
    rw [he] at hz
    have hk := k lsC hls
    have e : Ad G (1 + i) = gS G (1 + i) := by unfold Ad; rw [if_pos (by omega)]
    refine va_ldcS hC.1 hC.2.1 (by rw [← hY]; exact hC.2.2.2.2.2.1) hz hd ?_
    rw [← e]
    exact hk) k
end VR
end
section
/-! bits -/
theorem oi_nat' {x : Int} (h : 0 ≤ x) : Int32.ofInt x = Int32.ofNat x.toNat := by
  rw [← Int32.ofInt_eq_ofNat, Int.toNat_of_nonneg h]
theorem on_and (a b : Nat) : Int32.ofNat a &&& Int32.ofNat b = Int32.ofNat (a &&& b) := by
  apply Int32.toBitVec.inj
  rw [Int32.toBitVec_and]
  show BitVec.ofNat 32 a &&& BitVec.ofNat 32 b = BitVec.ofNat 32 (a &&& b)
  exact (BitVec.ofNat_and).symm
theorem on_or (a b : Nat) : Int32.ofNat a ||| Int32.ofNat b = Int32.ofNat (a ||| b) := by
  apply Int32.toBitVec.inj
  rw [Int32.toBitVec_or]
  show BitVec.ofNat 32 a ||| BitVec.ofNat 32 b = BitVec.ofNat 32 (a ||| b)
  exact (BitVec.ofNat_or).symm
theorem on_xor (a b : Nat) : Int32.ofNat a ^^^ Int32.ofNat b = Int32.ofNat (a ^^^ b) := by
  apply Int32.toBitVec.inj
  rw [Int32.toBitVec_xor]
  show BitVec.ofNat 32 a ^^^ BitVec.ofNat 32 b = BitVec.ofNat 32 (a ^^^ b)
  exact (BitVec.ofNat_xor).symm
theorem oi_emod (x : Int) : Int32.ofInt x = Int32.ofInt (x % 4294967296) := by
  apply Int32.toInt_inj.mp
  rw [Int32.toInt_ofInt, Int32.toInt_ofInt]
  exact (Int.emod_bmod x 4294967296).symm
theorem oi_and {x y : Int} (hx : 0 ≤ x) (hy : 0 ≤ y) : Int32.ofInt x &&& Int32.ofInt y = Int32.ofInt ((x.toNat &&& y.toNat : Nat) : Int) := by
  rw [oi_nat' hx, oi_nat' hy, on_and, Int32.ofInt_eq_ofNat]
theorem oi_or {x y : Int} (hx : 0 ≤ x) (hy : 0 ≤ y) : Int32.ofInt x ||| Int32.ofInt y = Int32.ofInt ((x.toNat ||| y.toNat : Nat) : Int) := by
  rw [oi_nat' hx, oi_nat' hy, on_or, Int32.ofInt_eq_ofNat]
theorem oi_xor {x y : Int} (hx : 0 ≤ x) (hy : 0 ≤ y) : Int32.ofInt x ^^^ Int32.ofInt y = Int32.ofInt ((x.toNat ^^^ y.toNat : Nat) : Int) := by
  rw [oi_nat' hx, oi_nat' hy, on_xor, Int32.ofInt_eq_ofNat]
theorem oi_mask (x : Int) (k : Nat) (hk : k ≤ 31) : Int32.ofInt x &&& Int32.ofInt ((2 ^ k - 1 : Nat) : Int) = Int32.ofInt (x % ((2 ^ k : Nat) : Int)) := by
  rw [oi_emod x, oi_and (Int.emod_nonneg _ (by decide)) (Int.natCast_nonneg _)]
  congr 1
  rw [Int.toNat_natCast, Nat.and_two_pow_sub_one_eq_mod, Int.natCast_emod, Int.toNat_of_nonneg (Int.emod_nonneg _ (by decide))]
  apply Int.emod_emod_of_dvd
  have h2 : (2 : Nat) ^ k ∣ 2 ^ 32 := Nat.pow_dvd_pow 2 (show k ≤ 32 by omega)
  exact Int.natCast_dvd_natCast.mpr h2
theorem sh_mask : ∀ k : Nat, k < 32 → (Int32.ofNat k &&& 31).toBitVec.smod 32 = BitVec.ofNat 32 k := by decide +kernel
theorem sh_nat : ∀ k : Nat, k < 32 → (BitVec.ofNat 32 k).toNat = k := by decide +kernel
theorem oi_shl {x y : Int} (hy : 0 ≤ y ∧ y ≤ 31) : Int32.ofInt x <<< (Int32.ofInt y &&& 31) = Int32.ofInt (x * (2 ^ y.toNat : Nat)) := by
  have hk : y.toNat < 32 := by omega
  rw [oi_nat' hy.1]
  apply Int32.toBitVec.inj
  show (Int32.ofInt x).toBitVec <<< ((Int32.ofNat y.toNat &&& 31).toBitVec.smod 32) = _
  rw [sh_mask _ hk, BitVec.shiftLeft_eq', sh_nat _ hk, Int32.ofInt_mul, Int32.toBitVec_mul, BitVec.shiftLeft_eq_mul_twoPow]
  congr 1
  apply BitVec.eq_of_toNat_eq
  rw [BitVec.toNat_twoPow, Int32.toBitVec_ofInt, BitVec.ofInt_natCast, BitVec.toNat_ofNat]
theorem oi_shr {x y : Int} (hx : InR x) (hy : 0 ≤ y ∧ y ≤ 31) : Int32.ofInt x >>> (Int32.ofInt y &&& 31) = Int32.ofInt (x / (2 ^ y.toNat : Nat)) := by
  have hk : y.toNat < 32 := by omega
  rw [oi_nat' hy.1]
  apply Int32.toInt_inj.mp
  show (((Int32.ofInt x).toBitVec.sshiftRight' ((Int32.ofNat y.toNat &&& 31).toBitVec.smod 32))).toInt = _
  rw [sh_mask _ hk, show ∀ (a b : BitVec 32), a.sshiftRight' b = a.sshiftRight b.toNat from fun _ _ => rfl, sh_nat _ hk, BitVec.toInt_sshiftRight]
  have e : (Int32.ofInt x).toBitVec.toInt = x := oi_toInt hx
  rw [e, Int.shiftRight_eq_div_pow]
  have hp : (0 : Int) < ((2 ^ y.toNat : Nat) : Int) := by exact_mod_cast Nat.two_pow_pos _
  have hb : InR (x / ((2 ^ y.toNat : Nat) : Int)) := by
    have h1 := hx.1
    have h2 := hx.2
    constructor
    · apply Int.le_ediv_of_mul_le hp
      have : (1 : Int) ≤ ((2 ^ y.toNat : Nat) : Int) := hp
      have h3 : (-2147483648 : Int) * ((2 ^ y.toNat : Nat) : Int) ≤ -2147483648 * 1 := Int.mul_le_mul_of_nonpos_left (by decide) this
      omega
    · rcases Int.le_total 0 x with h | h
      · exact Int.le_trans (Int.ediv_le_self _ h) h2
      · apply Int.not_lt.mp
        intro h5
        have h6 := (Int.le_ediv_iff_mul_le hp).mp (show 1 ≤ x / ((2 ^ y.toNat : Nat) : Int) by omega)
        omega
  rw [oi_toInt hb]
section VB
variable {G : Gx} {Y : Yx} {d rc rs pc : Nat} {ls : List (Option AV)} {st : List AV} {h : AH} {F : Option AV → AH → Prop}
theorem v_ishl {x y : Int} (hd : decode Y.2.1 pc = .ok (.ishl, 1)) (hy : 0 ≤ y ∧ y ≤ 31) (k : V G Y d rc rs (pc + 1) ls (aI (x * (2 ^ y.toNat : Nat)) :: st) h F) : V G Y d rc rs pc ls (aI y :: aI x :: st) h F :=
  V.lift (fun _ _ _ _ _ _ _ _ _ _ _ _ _ _ _ lsC hC hls _ _ _ _ k => lv_ishl hC.1 hC.2.1 hd (by rw [oi_shl hy]; exact k lsC hls)) k
theorem v_ishr {x y : Int} (hd : decode Y.2.1 pc = .ok (.ishr, 1)) (hx : InR x) (hy : 0 ≤ y ∧ y ≤ 31) (k : V G Y d rc rs (pc + 1) ls (aI (x / (2 ^ y.toNat : Nat)) :: st) h F) : V G Y d rc rs pc ls (aI y :: aI x :: st) h F :=
  V.lift (fun _ _ _ _ _ _ _ _ _ _ _ _ _ _ _ lsC hC hls _ _ _ _ k => lv_ishr hC.1 hC.2.1 hd (by rw [oi_shr hx hy]; exact k lsC hls)) k
theorem v_iand {x y : Int} (hd : decode Y.2.1 pc = .ok (.iand, 1)) (hx : 0 ≤ x) (hy : 0 ≤ y) (k : V G Y d rc rs (pc + 1) ls (aI ((x.toNat &&& y.toNat : Nat) : Int) :: st) h F) : V G Y d rc rs pc ls (aI y :: aI x :: st) h F :=
  V.lift (fun _ _ _ _ _ _ _ _ _ _ _ _ _ _ _ lsC hC hls _ _ _ _ k => lv_iand hC.1 hC.2.1 hd (by rw [oi_and hx hy]; exact k lsC hls)) k
theorem v_ior {x y : Int} (hd : decode Y.2.1 pc = .ok (.ior, 1)) (hx : 0 ≤ x) (hy : 0 ≤ y) (k : V G Y d rc rs (pc + 1) ls (aI ((x.toNat ||| y.toNat : Nat) : Int) :: st) h F) : V G Y d rc rs pc ls (aI y :: aI x :: st) h F :=
  V.lift (fun _ _ _ _ _ _ _ _ _ _ _ _ _ _ _ lsC hC hls _ _ _ _ k => lv_ior hC.1 hC.2.1 hd (by rw [oi_or hx hy]; exact k lsC hls)) k
theorem v_ixor {x y : Int} (hd : decode Y.2.1 pc = .ok (.ixor, 1)) (hx : 0 ≤ x) (hy : 0 ≤ y) (k : V G Y d rc rs (pc + 1) ls (aI ((x.toNat ^^^ y.toNat : Nat) : Int) :: st) h F) : V G Y d rc rs pc ls (aI y :: aI x :: st) h F :=
  V.lift (fun _ _ _ _ _ _ _ _ _ _ _ _ _ _ _ lsC hC hls _ _ _ _ k => lv_ixor hC.1 hC.2.1 hd (by rw [oi_xor hx hy]; exact k lsC hls)) k
/-- and with a mask of the lowest b bits, of any number -/
theorem v_mask {x y : Int} (b : Nat) (hd : decode Y.2.1 pc = .ok (.iand, 1)) (hb : b ≤ 31) (hy : y = ((2 ^ b - 1 : Nat) : Int)) (k : V G Y d rc rs (pc + 1) ls (aI (x % ((2 ^ b : Nat) : Int)) :: st) h F) : V G Y d rc rs pc ls (aI y :: aI x :: st) h F :=
  V.lift (fun _ _ _ _ _ _ _ _ _ _ _ _ _ _ _ lsC hC hls _ _ _ _ k => lv_iand hC.1 hC.2.1 hd (by rw [hy, oi_mask x b hb]; exact k lsC hls)) k
theorem v_i2c {x : Int} (hd : decode Y.2.1 pc = .ok (.i2c, 1)) (hx : 0 ≤ x ∧ x ≤ 65535) (k : V G Y d rc rs (pc + 1) ls (aI x :: st) h F) : V G Y d rc rs pc ls (aI x :: st) h F :=
  V.lift (fun _ _ _ _ _ _ _ _ _ _ _ _ _ _ _ lsC hC hls _ _ _ _ k => lv_i2c hC.1 hC.2.1 hd (v := Int32.ofInt x) (by
    rw [oi_nat' hx.1]
    have hn : x.toNat ≤ 65535 := by omega
    generalize x.toNat = n at hn ⊢
    apply Int32.toBitVec.inj
    apply BitVec.eq_of_toNat_eq
    show (UInt32.ofNat n % 65536).toNat = (BitVec.ofNat 32 n).toNat
    rw [UInt32.toNat_mod, UInt32.toNat_ofNat', BitVec.toNat_ofNat]
    show n % 4294967296 % 65536 = n % 4294967296
    omega) (k lsC hls)) k
/-! Math -/
theorem v_mmax {x y : Int} {idx : Nat} (hd : decode Y.2.1 pc = .ok (.invokestatic idx, 3)) (hl : Cond.methodLink Y.1.cls idx Lib.Math.max.name ∈ wsAll) (hx : InR x) (hy : InR y) (hc : catS st ≤ 8) (hd1 : 1 ≤ d) (k : V G Y d rc rs (pc + 3) ls (aI (max x y) :: st) h F) : V G Y d rc rs pc ls (aI y :: aI x :: st) h F :=
  V.lift (fun _ _ _ R _ _ _ _ _ _ _ _ _ _ _ lsC hC hls hcl hsl hdd hll k => by
    have ht := hC.2.2.2.2.2.2.2.1
    refine va_mmax hC.1 hC.2.1 (by rw [hC.2.2.1]; exact hls.1.symm) hC.2.2.2.2.2.1 (ht _ hl) (ht _ mst_max) (ht _ min_M) (ht _ mco_max) (by omega) (by rw [catS_cS]; omega) hcl hsl hd ?_
    have e : (if Int32.ofInt x < Int32.ofInt y then Int32.ofInt y else Int32.ofInt x) = Int32.ofInt (max x y) := by
      by_cases hb : x < y
      · rw [if_pos ((oi_lt hx hy).mpr hb), Int.max_eq_right (by omega)]
      · rw [if_neg (fun q => hb ((oi_lt hx hy).mp q)), Int.max_eq_left (by omega)]
    rw [e]; exact k lsC hls) k
theorem v_mmin {x y : Int} {idx : Nat} (hd : decode Y.2.1 pc = .ok (.invokestatic idx, 3)) (hl : Cond.methodLink Y.1.cls idx Lib.Math.min.name ∈ wsAll) (hx : InR x) (hy : InR y) (hc : catS st ≤ 8) (hd1 : 1 ≤ d) (k : V G Y d rc rs (pc + 3) ls (aI (min x y) :: st) h F) : V G Y d rc rs pc ls (aI y :: aI x :: st) h F :=
  V.lift (fun _ _ _ R _ _ _ _ _ _ _ _ _ _ _ lsC hC hls hcl hsl hdd hll k => by
    have ht := hC.2.2.2.2.2.2.2.1
    refine va_mmin hC.1 hC.2.1 (by rw [hC.2.2.1]; exact hls.1.symm) hC.2.2.2.2.2.1 (ht _ hl) (ht _ mst_min) (ht _ min_M) (ht _ mco_min) (by omega) (by rw [catS_cS]; omega) hcl hsl hd ?_
    have e : (if Int32.ofInt y < Int32.ofInt x then Int32.ofInt y else Int32.ofInt x) = Int32.ofInt (min x y) := by
      by_cases hb : y < x
      · rw [if_pos ((oi_lt hy hx).mpr hb), Int.min_eq_right (by omega)]
      · rw [if_neg (fun q => hb ((oi_lt hy hx).mp q)), Int.min_eq_left (by omega)]
    rw [e]; exact k lsC hls) k
theorem v_mabs {x : Int} {idx : Nat} (hd : decode Y.2.1 pc = .ok (.invokestatic idx, 3)) (hl : Cond.methodLink Y.1.cls idx Lib.Math.abs.name ∈ wsAll) (hx : InR x) (hc : catS st ≤ 8) (hd1 : 1 ≤ d) (k : V G Y d rc rs (pc + 3) ls (aI (if 0 ≤ x then x else -x) :: st) h F) : V G Y d rc rs pc ls (aI x :: st) h F :=
  V.lift (fun _ _ _ R _ _ _ _ _ _ _ _ _ _ _ lsC hC hls hcl hsl hdd hll k => by
    have ht := hC.2.2.2.2.2.2.2.1
    refine va_mabs hC.1 hC.2.1 (by rw [hC.2.2.1]; exact hls.1.symm) hC.2.2.2.2.2.1 (ht _ hl) (ht _ mst_abs) (ht _ min_M) (ht _ mco_abs) (by omega) (by rw [catS_cS]; omega) hcl hsl hd ?_
    have e : (if 0 ≤ Int32.ofInt x then Int32.ofInt x else 0 - Int32.ofInt x) = Int32.ofInt (if 0 ≤ x then x else -x) := by
      by_cases hb : 0 ≤ x
      · rw [if_pos (show (0 : Int32) ≤ Int32.ofInt x from (oi_le (x := 0) InR0 hx).mpr hb), if_pos hb]
      · rw [if_neg (show ¬ (0 : Int32) ≤ Int32.ofInt x from fun q => hb ((oi_le (x := 0) InR0 hx).mp q)), if_neg hb, show -x = 0 - x by omega, Int32.ofInt_sub]
        rfl
    rw [e]; exact k lsC hls) k
end VB
/-! the heap: reading, writing, making -/
def upA (h : AH) (a : Nat) (c : AC) : AH := (h.1, fun q => if q = a then some c else h.2 q)
def psA (h : AH) (c : AC) : AH := (h.1 + 1, fun q => if q = h.1 then some c else h.2 q)
theorem Rep.set {G : Gx} {h : AH} {H H' : Heap} {a : Nat} {c c' : AC} (hR : Rep G h H) (ha : h.2 a = some c) (hc : CellAt G c' (Ad G a) H') (hz : H'.size = H.size) (ho : ∀ q : Nat, q ≠ Ad G a → H'[q]? = H[q]?) : Rep G (upA h a c') H' := by
  obtain ⟨h1, h2, h3, h4, h5⟩ := hR
  obtain ⟨ha1, ha2, -⟩ := h5 a c ha
  have eA : Ad G a = gz G + (a - 100) := Ad_own ha1
  refine ⟨h1, h2, by rw [hz]; exact h3, fun q hq => by rw [ho q (by omega)]; exact h4 q hq, fun b x hb => ?_⟩
  by_cases e : b = a
  · subst e
    have : some c' = some x := by simpa [upA] using hb
    cases this
    exact ⟨ha1, ha2, hc⟩
  · have hb' : h.2 b = some x := by simpa [upA, e] using hb
    obtain ⟨b1, b2, b3⟩ := h5 b x hb'
    have hne : Ad G b ≠ Ad G a := by rw [eA, Ad_own b1]; omega
    refine ⟨b1, b2, ?_⟩
    rcases x with o | o
    · obtain ⟨r, r1, r2⟩ := b3
      exact ⟨r, r1, r2.kept (ho _ hne)⟩
    · exact (ho _ hne).trans b3
theorem Rep.push {G : Gx} {h : AH} {H H' : Heap} {c : AC} (hR : Rep G h H) (hc : CellAt G c H.size H') (hz : H'.size = H.size + 1) (ho : ∀ q : Nat, q < H.size → H'[q]? = H[q]?) : Rep G (psA h c) H' ∧ Ad G h.1 = H.size := by
  obtain ⟨h1, h2, h3, h4, h5⟩ := hR
  have eA : Ad G h.1 = H.size := by rw [Ad_own h1, h3]
  refine ⟨⟨by show 100 ≤ h.1 + 1; omega, h2, by rw [hz, h3]; show _ = gz G + (h.1 + 1 - 100); omega, fun q hq => by rw [ho q (by omega)]; exact h4 q hq, fun b x hb => ?_⟩, eA⟩
  by_cases e : b = h.1
  · subst e
    have : some c = some x := by simpa [psA] using hb
    cases this
    exact ⟨h1, by show h.1 < h.1 + 1; omega, by rw [eA]; exact hc⟩
  · have hb' : h.2 b = some x := by simpa [psA, e] using hb
    obtain ⟨b1, b2, b3⟩ := h5 b x hb'
    have hlt : Ad G b < H.size := by rw [h3, Ad_own b1]; omega
    refine ⟨b1, by show b < h.1 + 1; omega, ?_⟩
    rcases x with o | o
    · obtain ⟨r, r1, r2⟩ := b3
      exact ⟨r, r1, r2.kept (ho _ hlt)⟩
    · exact (ho _ hlt).trans b3
theorem cl_in {k : Nat} {r : vw_C} (h : cl[k]? = some r) : (∀ w ∈ u_ws r.1 r.2.1 r.2.2, w ∈ wsAll) ∧ (∀ a, a < r.2.2 → ∀ b, b < r.2.2 → a ≠ b → (r.2.1 a).2.1 ≠ (r.2.1 b).2.1) ∧ ∀ j, j < r.2.2 → parseFieldDescriptor (r.2.1 j).2.2.1 = some (tyA k j) := by
  match k, h with
  | 0, h => cases h; exact ⟨in_Canon, nm_Canon, ty_Canon_ok⟩
  | 1, h => cases h; exact ⟨in_Meetings, nm_Meetings, ty_Meetings_ok⟩
  | 2, h => cases h; exact ⟨in_Mind, nm_Mind, ty_Mind_ok⟩
  | 3, h => cases h; exact ⟨in_Row, nm_Row, ty_Row_ok⟩
  | 4, h => cases h; exact ⟨in_Text, nm_Text, ty_Text_ok⟩
  | 5, h => cases h; exact ⟨in_Tune, nm_Tune, ty_Tune_ok⟩
  | 6, h => cases h; exact ⟨in_Walks, nm_Walks, ty_Walks_ok⟩
  | 7, h => cases h; exact ⟨in_Main, nm_Main, ty_Main_ok⟩
  | 8, h => cases h; exact ⟨in_Model, nm_Model, ty_Model_ok⟩
  | k + 9, h => simp [cl] at h
section VH
variable {G : Gx} {Y : Yx} {d rc rs pc : Nat} {ls : List (Option AV)} {st : List AV} {h : AH} {F : Option AV → AH → Prop}
theorem v_getf {a idx k j : Nat} {fs : List AV} {v : AV} (hl : FL Y.1.cls idx k j) (hh : h.2 a = some (aO k fs)) (hf : fs[j]? = some v) (hd : decode Y.2.1 pc = .ok (.getfield idx, 3)) (K : V G Y d rc rs (pc + 3) ls (v :: st) h F) : V G Y d rc rs pc ls (aR a :: st) h F := by
  intro p l e R s m args below meth c Q hC hE hd1 hl1 H locs cells slots lsC hR hL hc hs hls
  have kk := K p l e R s m args below meth c Q hC hE hd1 hl1 H locs cells slots lsC hR hL hc hs hls
  obtain ⟨hx, hb, -, -, -, hown, -, hts, hKS⟩ := hC
  obtain ⟨r, r1, r2, r3, r4⟩ := hl
  obtain ⟨a1, a2, r', r1', cell, q1, q2, q3, q4⟩ := hR.2.2.2.2 a _ hh
  cases r1.symm.trans r1'
  obtain ⟨C, T, N⟩ := r
  obtain ⟨hin, -, -⟩ := cl_in r1
  obtain ⟨hS, hfc, kC, hkC, hkind⟩ := hKS.1.1 k _ r1
  obtain ⟨cf, kf, fi, f, hi, hsl⟩ := hS j r2
  have hst := (u_facts hfc hkC (u_lays hts hin r2) hi).1
  have hslot : cell.slots[f.slot]? = some (cv G v) := by
    rw [hsl, q4 j r2]
    simp [vp_V, cS_get, hf]
  dsimp only at r3 r4 hi
  rw [r3] at hi
  rcases r4 with r4 | ⟨host, r4⟩
  · exact W.getf hx hb hown (hts _ r4) hi hst q1 (by rw [q3]; exact fun h => by cases h) hslot rfl rfl hd kk
  · exact va_Wgetf hx hb hown (va_Nw.use rfl (hKS.2.1 _ r4)) hi hst q1 (by rw [q3]; exact fun h => by cases h) hslot rfl rfl hd kk
theorem v_putf {a idx k j : Nat} {fs : List AV} {v : AV} (hl : FL Y.1.cls idx k j) (hh : h.2 a = some (aO k fs)) (hj : j < fs.length)
    (hfin : ∀ r : vw_C, cl[k]? = some r → ((r.2.1 j).2.2.2 = false ∨ ((r.2.1 j).2.2.2 = true ∧ Y.1.name = "<init>" ∧ (r.2.1 j).1 = Y.1.cls))) (hn : narrow (tyA k j) (cv G v) = cv G v) (hv : fits (tyA k j) (cv G v) = true) (hd : decode Y.2.1 pc = .ok (.putfield idx, 3))
    (K : V G Y d rc rs (pc + 3) ls st (upA h a (aO k (fs.set j v))) F) : V G Y d rc rs pc ls (v :: aR a :: st) h F := by
  intro p l e R s m args below meth c Q hC hE hd1 hl1 H locs cells slots lsC hR hL hc hs hls
  have kk := K p l e R s m args below meth c Q hC hE hd1 hl1
  obtain ⟨hx, hb, -, -, -, hown, hname, hts, hKS⟩ := hC
  obtain ⟨r, r1, r2, r3, r4⟩ := hl
  obtain ⟨a1, a2, r', r1', cell, q1, q2, q3, q4⟩ := hR.2.2.2.2 a _ hh
  cases r1.symm.trans r1'
  obtain ⟨C, T, N⟩ := r
  obtain ⟨hin, hnm, hty⟩ := cl_in r1
  have hap := va_apart (own := C) (cl := cl) (ci := k) (D := gD G) hts hin (tyA k) hty hnm hKS.1 r1
  obtain ⟨hS, hfc, kC, hkC, hkind⟩ := hKS.1.1 k _ r1
  obtain ⟨cf, kf, fi, f, hi, hsl⟩ := hS j r2
  have hst := (u_facts hfc hkC (u_lays hts hin r2) hi).1
  have hfd := hty j r2
  have hlay := hts _ (hin _ (u_in_lay r2))
  have hA : gz G ≤ Ad G a := by rw [Ad_own a1]; omega
  have fin : ∀ H' : Heap, H'[Ad G a]? = some (cell.setSlot f.slot (cv G v)) → H'.size = H.size → (∀ q, q ≠ Ad G a → H'[q]? = H[q]?) → W p l e R s m args below meth c H' (locs ++ [⟨Ad G a, f.slot⟩]) cells slots Q (F0 m (pc + 3) lsC (cS G st)) := by
    intro H' e1 e2 e3
    refine kk H' _ cells slots lsC (hR.set hh ?_ e2 e3) (fun q hq => ?_) hc hs hls
    · rw [hsl] at e1
      refine ⟨_, r1, ?_⟩
      rw [cS_set]
      exact t_OB.to (V := updV (vp_V (cS G fs)) j (cv G v)) ⟨_, e1, q2, q3, t_set q4 hap r2 (cv G v)⟩ (fun i _ => vp_updV_set (by rw [cS_len]; exact hj) (cv G v) i)
    · rcases List.mem_append.mp hq with h1 | h1
      · exact hL q h1
      · rw [List.mem_singleton.mp h1]; exact hA
  have hslt : f.slot < cell.slots.size := by rw [hsl]; exact k2_hasslot (q4 j r2)
  have hf := hfin _ r1
  dsimp only at r3 r4 hi hf hfd hlay
  have hdes : (T j).1 = C := r3
  have hi' := hi
  rw [hdes] at hi
  rcases hf with hf | ⟨hf, hinit, hdecl⟩
  · unfold u_lay at hlay
    rw [if_neg (by rw [hf]; decide)] at hlay
    have h6 := u_store hfc hkC hkind hlay hi' hfd hn hv
    rcases r4 with r4 | ⟨host, r4⟩
    · exact W.putK hx hb (f := f) ⟨hown, hts _ r4, ⟨_, _, _, hi⟩, hst⟩ (by rw [q2]; exact h6) q1 q3 hslt rfl rfl hd fin
    · exact va_WputK hx hb (f := f) hown (va_Nw.use rfl (hKS.2.1 _ r4)) hi hst (by rw [q2]; exact h6) q1 q3 hslt rfl rfl hd fin
  · unfold u_lay at hlay
    rw [if_pos hf] at hlay
    have hcf : m.cls = cf := by
      obtain ⟨_, _, c', _, _, _, -, -, hf', -, -, -, hown2, -⟩ := Cond.laysFinal_spec hlay
      have e1 : c' = cf := by have := hi'.symm.trans hf'; simp at this; exact this.1.symm
      rw [hdecl] at hown2
      rw [← e1]; exact Option.some.inj (hown.symm.trans hown2)
    have h6 := u_fits hfc hkC hkind (Or.inr hlay) hi' hfd hn hv
    rcases r4 with r4 | ⟨host, r4⟩
    · exact W.putFinK hx hb hown (hts _ r4) hi hst hcf (hname.trans hinit) (by rw [q2]; exact h6) q1 q3 hslt rfl rfl hd fin
    · exact va_Wputf hx hb hown (va_Nw.use rfl (hKS.2.1 _ r4)) hi hst (Or.inr ⟨hcf, hname.trans hinit⟩) q1 (by rw [q3]; exact fun h => by cases h) hslt h6.1 (by rw [q3, q2]; exact h6.2) rfl rfl hd (by
        have ha : Ad G a < H.size := (Array.getElem?_eq_some_iff.mp q1).1
        refine fin _ ?_ ?_ ?_
        · simp [Array.getElem?_setIfInBounds, ha]
        · simp
        · intro q hq
          simp [Array.getElem?_setIfInBounds, Ne.symm hq])
end VH
end
section
/-! arrays -/
theorem aC_upd (t : Nat) (xs : List Int) (j : Nat) (x : Int) (hj : j < xs.length) (k : Nat) :
    updV (fun i => if t = 1 then Value.long (Int64.ofInt (xs.getD i 0)) else Value.int (Int32.ofInt (xs.getD i 0))) j (if t = 1 then Value.long (Int64.ofInt x) else Value.int (Int32.ofInt x)) k =
    (fun i => if t = 1 then Value.long (Int64.ofInt ((xs.set j x).getD i 0)) else Value.int (Int32.ofInt ((xs.set j x).getD i 0))) k := by
  unfold updV
  by_cases e : k = j
  · subst e
    simp [List.getD_eq_getElem?_getD, List.getElem?_set, hj]
  · rw [if_neg e]
    simp [List.getD_eq_getElem?_getD, List.getElem?_set, Ne.symm e]
theorem KS.arr {G : Gx} {s : State} (h : KS G s) {t : Nat} (ht : t < 3) : ArrOfT s (gA G t) (aty t) ∧ va_RA s (gA G t) (aty t) := by
  match t, ht with
  | 0, _ => exact h.1.2 0 _ rfl
  | 1, _ => exact h.1.2 1 _ rfl
  | 2, _ => exact h.1.2 2 _ rfl
section VA
variable {G : Gx} {Y : Yx} {d rc rs pc : Nat} {ls : List (Option AV)} {st : List AV} {h : AH} {F : Option AV → AH → Prop}
theorem v_alen {a t : Nat} {xs : List Int} (ht : t < 3) (hh : h.2 a = some (aA t xs)) (hd : decode Y.2.1 pc = .ok (.arraylength, 1)) (K : V G Y d rc rs (pc + 1) ls (aI xs.length :: st) h F) : V G Y d rc rs pc ls (aR a :: st) h F := by
  intro p l e R s m args below meth c Q hC hE hd1 hl1 H locs cells slots lsC hR hL hc hs hls
  have kk := K p l e R s m args below meth c Q hC hE hd1 hl1 H locs cells slots lsC hR hL hc hs hls
  obtain ⟨hx, hb, -, -, -, -, -, -, hKS⟩ := hC
  obtain ⟨-, -, q1⟩ := hR.2.2.2.2 a _ hh
  exact W.alen (ty := aty t) (n := Int32.ofInt xs.length) hx hb q1 ((hKS.arr ht).1 _ _) (by rw [arrV_size, Int32.ofInt_eq_ofNat]) rfl rfl hd kk
theorem v_iald {a : Nat} {i : Int} {xs : List Int} (hh : h.2 a = some (aA 0 xs)) (hi : 0 ≤ i ∧ i < xs.length) (hz : xs.length ≤ 100000) (hd : decode Y.2.1 pc = .ok (.iaload, 1)) (K : V G Y d rc rs (pc + 1) ls (aI (xs.getD i.toNat 0) :: st) h F) : V G Y d rc rs pc ls (aI i :: aR a :: st) h F := by
  intro p l e R s m args below meth c Q hC hE hd1 hl1 H locs cells slots lsC hR hL hc hs hls
  have kk := K p l e R s m args below meth c Q hC hE hd1 hl1 H locs cells slots lsC hR hL hc hs hls
  obtain ⟨hx, hb, -, -, -, -, -, -, hKS⟩ := hC
  obtain ⟨-, -, q1⟩ := hR.2.2.2.2 a _ hh
  have hn : (Int32.ofInt i).toNatClampNeg = i.toNat := oi_nat hi.1 (by omega)
  refine W.iald (v := .int (Int32.ofInt (xs.getD i.toNat 0))) hx hb q1 ((hKS.arr (t := 0) (by decide)).1 _ _) (fun q => by cases q) ?_ ?_ rfl rfl hd kk
  · rw [arrV_size, hn]
    rintro (q | q)
    · have := (oi_lt (y := 0) ⟨by omega, by omega⟩ InR0).mp q; omega
    · have q' : xs.length ≤ i.toNat := q
      omega
  · rw [hn, arrV_read _ _ (show i.toNat < xs.length by omega)]
    rfl
theorem v_cald {a : Nat} {i : Int} {xs : List Int} (hh : h.2 a = some (aA 2 xs)) (hi : 0 ≤ i ∧ i < xs.length) (hz : xs.length ≤ 100000) (hd : decode Y.2.1 pc = .ok (.caload, 1)) (K : V G Y d rc rs (pc + 1) ls (aI (xs.getD i.toNat 0) :: st) h F) : V G Y d rc rs pc ls (aI i :: aR a :: st) h F := by
  intro p l e R s m args below meth c Q hC hE hd1 hl1 H locs cells slots lsC hR hL hc hs hls
  have kk := K p l e R s m args below meth c Q hC hE hd1 hl1 H locs cells slots lsC hR hL hc hs hls
  obtain ⟨hx, hb, -, -, -, -, -, -, hKS⟩ := hC
  obtain ⟨-, -, q1⟩ := hR.2.2.2.2 a _ hh
  have hn : (Int32.ofInt i).toNatClampNeg = i.toNat := oi_nat hi.1 (by omega)
  refine W.cald (v := .int (Int32.ofInt (xs.getD i.toNat 0))) hx hb q1 ((hKS.arr (t := 2) (by decide)).1 _ _) (fun q => by cases q) ?_ ?_ rfl rfl hd kk
  · rw [arrV_size, hn]
    rintro (q | q)
    · have := (oi_lt (y := 0) ⟨by omega, by omega⟩ InR0).mp q; omega
    · have q' : xs.length ≤ i.toNat := q
      omega
  · rw [hn, arrV_read _ _ (show i.toNat < xs.length by omega)]
    rfl
theorem v_lald {a : Nat} {i : Int} {xs : List Int} (hh : h.2 a = some (aA 1 xs)) (hi : 0 ≤ i ∧ i < xs.length) (hz : xs.length ≤ 100000) (hd : decode Y.2.1 pc = .ok (.laload, 1)) (K : V G Y d rc rs (pc + 1) ls (aJ (xs.getD i.toNat 0) :: st) h F) : V G Y d rc rs pc ls (aI i :: aR a :: st) h F := by
  intro p l e R s m args below meth c Q hC hE hd1 hl1 H locs cells slots lsC hR hL hc hs hls
  have kk := K p l e R s m args below meth c Q hC hE hd1 hl1 H locs cells slots lsC hR hL hc hs hls
  obtain ⟨hx, hb, -, -, -, -, -, -, hKS⟩ := hC
  obtain ⟨-, -, q1⟩ := hR.2.2.2.2 a _ hh
  have hn : (Int32.ofInt i).toNatClampNeg = i.toNat := oi_nat hi.1 (by omega)
  refine W.lald (v := .long (Int64.ofInt (xs.getD i.toNat 0))) hx hb q1 ((hKS.arr (t := 1) (by decide)).1 _ _) (fun q => by cases q) ?_ ?_ rfl rfl hd kk
  · rw [arrV_size, hn]
    rintro (q | q)
    · have := (oi_lt (y := 0) ⟨by omega, by omega⟩ InR0).mp q; omega
    · have q' : xs.length ≤ i.toNat := q
      omega
  · rw [hn, arrV_read _ _ (show i.toNat < xs.length by omega)]
    rfl
theorem v_store {a t : Nat} {i x : Int} {xs : List Int} {H H' : Heap} (hR : Rep G h H) (hh : h.2 a = some (aA t xs)) (hi : 0 ≤ i ∧ i < xs.length)
    (e1 : H'[Ad G a]? = some ((arrV (gA G t) xs.length (fun j => if t = 1 then .long (Int64.ofInt (xs.getD j 0)) else .int (Int32.ofInt (xs.getD j 0)))).setSlot i.toNat (if t = 1 then .long (Int64.ofInt x) else .int (Int32.ofInt x)))) (e2 : H'.size = H.size) (e3 : ∀ q : Nat, q ≠ Ad G a → H'[q]? = H[q]?) : Rep G (upA h a (aA t (xs.set i.toNat x))) H' := by
  refine hR.set hh ?_ e2 e3
  show H'[Ad G a]? = some (arrV (gA G t) (xs.set i.toNat x).length _)
  rw [e1, arrV_store, List.length_set]
  congr 1
  exact congrArg _ (funext (aC_upd t xs i.toNat x (by omega)))
theorem v_iast {a : Nat} {i x : Int} {xs : List Int} (hh : h.2 a = some (aA 0 xs)) (hi : 0 ≤ i ∧ i < xs.length) (hz : xs.length ≤ 100000) (hd : decode Y.2.1 pc = .ok (.iastore, 1)) (K : V G Y d rc rs (pc + 1) ls st (upA h a (aA 0 (xs.set i.toNat x))) F) : V G Y d rc rs pc ls (aI x :: aI i :: aR a :: st) h F := by
  intro p l e R s m args below meth c Q hC hE hd1 hl1 H locs cells slots lsC hR hL hc hs hls
  have kk := K p l e R s m args below meth c Q hC hE hd1 hl1
  obtain ⟨hx, hb, -, -, -, -, -, -, hKS⟩ := hC
  obtain ⟨a1, -, q1⟩ := hR.2.2.2.2 a _ hh
  have hn : (Int32.ofInt i).toNatClampNeg = i.toNat := oi_nat hi.1 (by omega)
  refine W.iast (x := Int32.ofInt x) hx hb q1 ((hKS.arr (t := 0) (by decide)).1 _ _) (fun q => by cases q) ?_ rfl rfl hd (fun H' e1 e2 e3 => ?_)
  · rw [arrV_size, hn]
    rintro (q | q)
    · have := (oi_lt (y := 0) ⟨by omega, by omega⟩ InR0).mp q; omega
    · have q' : xs.length ≤ i.toNat := q
      omega
  · rw [hn] at e1
    refine kk H' _ cells slots lsC (v_store hR hh hi e1 e2 e3) (fun q hq => ?_) hc hs hls
    rcases List.mem_append.mp hq with h1 | h1
    · exact hL q h1
    · rw [List.mem_singleton.mp h1]; show gz G ≤ Ad G a; rw [Ad_own a1]; omega
theorem v_last {a : Nat} {i x : Int} {xs : List Int} (hh : h.2 a = some (aA 1 xs)) (hi : 0 ≤ i ∧ i < xs.length) (hz : xs.length ≤ 100000) (hd : decode Y.2.1 pc = .ok (.lastore, 1)) (K : V G Y d rc rs (pc + 1) ls st (upA h a (aA 1 (xs.set i.toNat x))) F) : V G Y d rc rs pc ls (aJ x :: aI i :: aR a :: st) h F := by
  intro p l e R s m args below meth c Q hC hE hd1 hl1 H locs cells slots lsC hR hL hc hs hls
  have kk := K p l e R s m args below meth c Q hC hE hd1 hl1
  obtain ⟨hx, hb, -, -, -, -, -, -, hKS⟩ := hC
  obtain ⟨a1, -, q1⟩ := hR.2.2.2.2 a _ hh
  have hn : (Int32.ofInt i).toNatClampNeg = i.toNat := oi_nat hi.1 (by omega)
  refine W.last (x := Int64.ofInt x) hx hb q1 ((hKS.arr (t := 1) (by decide)).1 _ _) (fun q => by cases q) ?_ rfl rfl hd (fun H' e1 e2 e3 => ?_)
  · rw [arrV_size, hn]
    rintro (q | q)
    · have := (oi_lt (y := 0) ⟨by omega, by omega⟩ InR0).mp q; omega
    · have q' : xs.length ≤ i.toNat := q
      omega
  · rw [hn] at e1
    refine kk H' _ cells slots lsC (v_store hR hh hi e1 e2 e3) (fun q hq => ?_) hc hs hls
    rcases List.mem_append.mp hq with h1 | h1
    · exact hL q h1
    · rw [List.mem_singleton.mp h1]; show gz G ≤ Ad G a; rw [Ad_own a1]; omega
theorem v_cast {a : Nat} {i x : Int} {xs : List Int} (hh : h.2 a = some (aA 2 xs)) (hi : 0 ≤ i ∧ i < xs.length) (hz : xs.length ≤ 100000) (hn : narrow .char (.int (Int32.ofInt x)) = .int (Int32.ofInt x)) (hd : decode Y.2.1 pc = .ok (.castore, 1)) (K : V G Y d rc rs (pc + 1) ls st (upA h a (aA 2 (xs.set i.toNat x))) F) : V G Y d rc rs pc ls (aI x :: aI i :: aR a :: st) h F := by
  intro p l e R s m args below meth c Q hC hE hd1 hl1 H locs cells slots lsC hR hL hc hs hls
  have kk := K p l e R s m args below meth c Q hC hE hd1 hl1
  obtain ⟨hx, hb, -, -, -, -, -, -, hKS⟩ := hC
  obtain ⟨a1, -, q1⟩ := hR.2.2.2.2 a _ hh
  have hn' : (Int32.ofInt i).toNatClampNeg = i.toNat := oi_nat hi.1 (by omega)
  refine W.cast (x := Int32.ofInt x) hx hb q1 ((hKS.arr (t := 2) (by decide)).1 _ _) (fun q => by cases q) ?_ rfl rfl hd (fun H' e1 e2 e3 => ?_)
  · rw [arrV_size, hn']
    rintro (q | q)
    · have := (oi_lt (y := 0) ⟨by omega, by omega⟩ InR0).mp q; omega
    · have q' : xs.length ≤ i.toNat := q
      omega
  · rw [hn', hn] at e1
    refine kk H' _ cells slots lsC (v_store hR hh hi e1 e2 e3) (fun q hq => ?_) hc hs hls
    rcases List.mem_append.mp hq with h1 | h1
    · exact hL q h1
    · rw [List.mem_singleton.mp h1]; show gz G ≤ Ad G a; rw [Ad_own a1]; omega
/-! the script -/
theorem v_slen {n : Int} (hn : n = gL G) (hd : decode Y.2.1 pc = .ok (.arraylength, 1)) (K : V G Y d rc rs (pc + 1) ls (aI n :: st) h F) : V G Y d rc rs pc ls (aR 0 :: st) h F := by
  intro p l e R s m args below meth c Q hC hE hd1 hl1 H locs cells slots lsC hR hL hc hs hls
  have kk := K p l e R s m args below meth c Q hC hE hd1 hl1 H locs cells slots lsC hR hL hc hs hls
  obtain ⟨hx, hb, -, -, -, -, -, -, hKS⟩ := hC
  obtain ⟨-, -, -, -, -, -, ⟨scr, x1, x2, x3, x4, x5⟩, h7, h8⟩ := hKS
  have e : Ad G 0 = gS G 0 := by unfold Ad; rw [if_pos (by decide)]
  subst hn
  exact W.alen (a := Ad G 0) (n := Int32.ofInt (gL G)) hx hb (by rw [e, hR.2.2.2.1 _ h7]; exact x1) x2 (by rw [x4, Int32.ofInt_eq_ofNat]) rfl rfl hd kk
theorem v_sld {i x : Int} (hi : 0 ≤ i ∧ i < gL G) (hxx : x = (gX G i.toNat).toInt) (hd : decode Y.2.1 pc = .ok (.iaload, 1)) (K : V G Y d rc rs (pc + 1) ls (aI x :: st) h F) : V G Y d rc rs pc ls (aI i :: aR 0 :: st) h F := by
  intro p l e R s m args below meth c Q hC hE hd1 hl1 H locs cells slots lsC hR hL hc hs hls
  have kk := K p l e R s m args below meth c Q hC hE hd1 hl1 H locs cells slots lsC hR hL hc hs hls
  obtain ⟨hx, hb, -, -, -, -, -, -, hKS⟩ := hC
  obtain ⟨-, -, -, -, -, -, ⟨scr, x1, x2, x3, x4, x5⟩, h7, h8⟩ := hKS
  have e : Ad G 0 = gS G 0 := by unfold Ad; rw [if_pos (by decide)]
  have hn : (Int32.ofInt i).toNatClampNeg = i.toNat := oi_nat hi.1 (by omega)
  subst hxx
  have ev : Int32.ofInt (gX G i.toNat).toInt = gX G i.toNat := oi_self _
  refine W.iald (a := Ad G 0) (v := .int (Int32.ofInt (gX G i.toNat).toInt)) hx hb (by rw [e, hR.2.2.2.1 _ h7]; exact x1) x2 x3 ?_ ?_ rfl rfl hd kk
  · rw [x4, hn]
    rintro (q | q)
    · have := (oi_lt (y := 0) ⟨by omega, by omega⟩ InR0).mp q; omega
    · have q' : gL G ≤ i.toNat := q
      omega
  · rw [hn, ev]; exact x5 _ (by omega)
/-! making -/
theorem v_new {idx k N : Nat} {C : String} {T : u_T} {fs : List AV} (hk : cl[k]? = some (C, T, N)) (hcl : Cond.classLink Y.1.cls idx C ∈ wsAll) (hins : Cond.instantiable C N ∈ wsAll) (hini : Cond.initialized C ∈ wsAll)
    (hfs : ∀ j, j < N → defaultValue (tyA k j) = vp_V (cS G fs) j) (hd : decode Y.2.1 pc = .ok (.new idx, 3)) (K : V G Y d rc rs (pc + 3) ls (aR h.1 :: st) (psA h (aO k fs)) F) : V G Y d (rc + 1) (rs + N) pc ls st h F := by
  intro p l e R s m args below meth c Q hC hE hd1 hl1 H locs cells slots lsC hR hL hc hs hls
  have kk := K p l e R s m args below meth c Q hC hE hd1 hl1
  obtain ⟨hx, hb, -, -, -, hown, -, hts, hKS⟩ := hC
  obtain ⟨hin, hnm, hty⟩ := cl_in hk
  have hKn := hKS.1.1 k _ hk
  refine W.newcK hx hb hown (hts _ hcl) (hts _ hins) (hts _ hini) rfl hd (by omega) (by omega) hKn.2.1 rfl fun H1 kC hkC e1 z1 o1 => ?_
  have hcell : CellAt G (aO k fs) H.size H1 := ⟨_, hk, (u_born (tyA k) hts hin hKn hkC e1 hty).to hfs⟩
  obtain ⟨r1, r2⟩ := hR.push hcell z1 o1
  have := kk H1 locs (cells + 1) (slots + N) lsC r1 hL (by omega) (by omega) hls
  rw [show cS G (aR h.1 :: st) = Value.ref H.size :: cS G st by rw [← r2]; rfl] at this
  exact this
theorem v_newa {t : Nat} {n : Int} {aty0 : ArrayType} (ht : t < 3) (hat : newarray.typeOf aty0 = aty t) (hw : Cond.arrayClass (aty t) ∈ wsAll) (hn : 0 ≤ n ∧ n ≤ 10000) (hd : decode Y.2.1 pc = .ok (.newarray aty0, 2)) (K : V G Y d rc rs (pc + 2) ls (aR h.1 :: st) (psA h (aA t (List.replicate n.toNat 0))) F) : V G Y d (rc + 1) (rs + n.toNat) pc ls (aI n :: st) h F := by
  intro p l e R s m args below meth c Q hC hE hd1 hl1 H locs cells slots lsC hR hL hc hs hls
  have kk := K p l e R s m args below meth c Q hC hE hd1 hl1
  obtain ⟨hx, hb, -, -, -, hown, -, hts, hKS⟩ := hC
  have hb8 : componentBytes (newarray.typeOf aty0) ≤ 8 := by rw [hat]; rcases (show t = 0 ∨ t = 1 ∨ t = 2 by omega) with rfl | rfl | rfl <;> decide
  refine va_newaK (N := n.toNat) hx hb (by rw [hat]; exact hts _ hw) rfl hd rfl (fun q => ?_) (oi_nat hn.1 (by omega)) ?_ (by omega) (by omega) rfl fun H1 cA e1 z1 o1 _ hfc => ?_
  · have := (oi_lt (y := 0) ⟨by omega, by omega⟩ InR0).mp q; omega
  · have : n.toNat * componentBytes (newarray.typeOf aty0) ≤ 10000 * 8 := Nat.mul_le_mul (by omega) hb8
    omega
  · have hcA : cA = gA G t := by
      rw [hat] at hfc
      have h9 := (hKS.arr ht).2
      rcases (show t = 0 ∨ t = 1 ∨ t = 2 by omega) with rfl | rfl | rfl <;> exact Option.some.inj (hfc.symm.trans h9)
    have hcell : CellAt G (aA t (List.replicate n.toNat 0)) H.size H1 := by
      show H1[H.size]? = some (arrV (gA G t) (List.replicate n.toNat (0 : Int)).length _)
      rw [e1, hcA, List.length_replicate]
      congr 2
      funext j
      rw [hat]
      have e0 : (List.replicate n.toNat (0 : Int)).getD j 0 = 0 := by
        simp [List.getD_eq_getElem?_getD, List.getElem?_replicate]
        split <;> rfl
      rw [e0]
      rcases (show t = 0 ∨ t = 1 ∨ t = 2 by omega) with rfl | rfl | rfl <;> rfl
    obtain ⟨r1, r2⟩ := hR.push hcell z1 o1
    have := kk H1 locs (cells + 1) (slots + n.toNat) lsC r1 hL (by omega) (by omega) hls
    rw [show cS G (aR h.1 :: st) = Value.ref H.size :: cS G st by rw [← r2]; rfl] at this
    exact this
/-! returns -/
theorem v_ireturn {n : Int} {ty : FieldType} (hd : decode Y.2.1 pc = .ok (.ireturn, 1)) (hr : Y.2.2.2 = some ty) (hn : narrow ty (.int (Int32.ofInt n)) = .int (Int32.ofInt n)) (hF : F (some (aI n)) h) : V G Y d rc rs pc ls [aI n] h F := by
  intro p l e R s m args below meth c Q hC hE hd1 hl1 H locs cells slots lsC hR hL hc hs hls
  exact hE (some (aI n)) h H locs cells slots pc lsC .ireturn hF hR hL (by omega) (by omega) hd ⟨rfl, ty, hr, hn⟩
theorem v_lreturn {n : Int} (hd : decode Y.2.1 pc = .ok (.lreturn, 1)) (hr : Y.2.2.2 = some .long) (hF : F (some (aJ n)) h) : V G Y d rc rs pc ls [aJ n] h F := by
  intro p l e R s m args below meth c Q hC hE hd1 hl1 H locs cells slots lsC hR hL hc hs hls
  exact hE (some (aJ n)) h H locs cells slots pc lsC .lreturn hF hR hL (by omega) (by omega) hd ⟨rfl, hr⟩
theorem v_areturn {a : Nat} {n : String} (hd : decode Y.2.1 pc = .ok (.areturn, 1)) (hr : Y.2.2.2 = some (.object n)) (hF : F (some (aR a)) h) : V G Y d rc rs pc ls [aR a] h F := by
  intro p l e R s m args below meth c Q hC hE hd1 hl1 H locs cells slots lsC hR hL hc hs hls
  exact hE (some (aR a)) h H locs cells slots pc lsC .areturn hF hR hL (by omega) (by omega) hd ⟨rfl, n, hr⟩
theorem v_return (hd : decode Y.2.1 pc = .ok (.return_, 1)) (hr : Y.2.2.2 = none) (hF : F none h) : V G Y d rc rs pc ls [] h F := by
  intro p l e R s m args below meth c Q hC hE hd1 hl1 H locs cells slots lsC hR hL hc hs hls
  exact hE none h H locs cells slots pc lsC .return_ hF hR hL (by omega) (by omega) hd ⟨rfl, hr⟩
end VA
end
section
/-! contracts of methods over abstract heaps -/
def Pcx (G : Gx) (as : List AV) (h : AH) : Array Value → State → Prop := fun a s => a = (cS G as).toArray ∧ Rep G h s.heap ∧ KS G s
def Qcx (G : Gx) (F : Option AV → AH → Prop) : Array Value → State → Outcome → State → Prop := fun _ _ o t => ∃ v h, o = .returned (v.map (cv G)) ∧ Rep G h t.heap ∧ F v h
def rmx (d mc ms : Nat) : Room := { frames := d, cells := mc, slots := ms, locals := 38 * d }
def wsx (Y : Yx) : List Cond := Cond.code Y.1 Y.2.1 Y.2.2.1 Y.2.2.2 :: wsAll
def Ct (G : Gx) (Y : Yx) (d mc ms : Nat) (as : List AV) (h : AH) (F : Option AV → AH → Prop) : Prop := ∀ l, Met l Y.1 (wsx Y) (rmx d mc ms) (Pcx G as h) (Qcx G F) mc ms (fun q => gz G ≤ q)
/-- the answer and the heap are just these -/
def isR (v0 : Option AV) (h0 : AH) : Option AV → AH → Prop := fun v h => v = v0 ∧ h = h0
def entL : Nat → List AV → List (Option AV)
  | 0, _ => []
  | n + 1, [] => none :: entL n []
  | n + 1, a :: t => some a :: entL n t
def noL : List AV → Bool
  | [] => true
  | .inr (.inl _) :: _ => false
  | _ :: t => noL t
theorem noL_cat {G : Gx} : ∀ {v : AV} {t : List AV}, noL (v :: t) = true → (cv G v).category = 1 ∧ noL t = true
  | .inl _, t, h => ⟨rfl, h⟩
  | .inr (.inl _), t, h => by cases h
  | .inr (.inr none), t, h => ⟨rfl, h⟩
  | .inr (.inr (some _)), t, h => ⟨rfl, h⟩
theorem entL_in {G : Gx} : ∀ (n k : Nat) (as : List AV), noL as = true → ∀ q ∈ prs G k (entL n as), q ∈ lv_args k (cS G as)
  | 0, k, as, _, q, hq => by simp [entL, prs] at hq
  | n + 1, k, [], hn, q, hq => by
    have := entL_in n (k + 1) [] rfl q (by simpa [entL, prs] using hq)
    simp [cS, lv_args] at this
  | n + 1, k, a :: t, hn, q, hq => by
    obtain ⟨h1, h2⟩ := noL_cat (G := G) hn
    show q ∈ (k, cv G a) :: lv_args (if (cv G a).category = 2 then k + 2 else k + 1) (cS G t)
    rw [h1, if_neg (by decide)]
    rcases List.mem_cons.mp (show q ∈ (k, cv G a) :: prs G (k + 1) (entL n t) from hq) with h | h
    · exact List.mem_cons.mpr (Or.inl h)
    · exact List.mem_cons.mpr (Or.inr (entL_in n (k + 1) t h2 q h))
theorem lg_sl_len {G : Gx} : ∀ (as : List AV), noL as = true → (lg_sl (cS G as)).length = as.length
  | [], _ => rfl
  | a :: t, h => by
    obtain ⟨h1, h2⟩ := noL_cat (G := G) h
    show (lg_sl (cv G a :: cS G t)).length = _
    unfold lg_sl
    rw [List.flatMap_cons, h1, if_neg (by decide)]
    show (lg_sl (cS G t)).length + 1 = t.length + 1
    rw [lg_sl_len t h2]
theorem headRoom (ws : List Cond) (rm : Room) : (headSpec ws rm).room = rm := rfl
/-- the frame's end is the contract's end -/
theorem VE_mq {G : Gx} {Y : Yx} {p : Program} {l : Launch} {e : Env} {s : State} {m : MethodId} {args : Array Value} {below : List Frame} {meth : Method} {c : Code} {d mc ms : Nat} {F : Option AV → AH → Prop} (hx : p.tables.exec = Jvm.exec) (hb : c.code = Y.2.1) (hr : meth.sig.returnType = Y.2.2.2) (hlocks : meth.locks = false) :
    VE G Y p l e (rmx d mc ms) s m args below meth c F (MQ below (Qcx G F) args s mc ms (fun q => gz G ≤ q)) := by
  intro v h H locs cells slots pc lsC i hF hR hL hc hs hd hret
  refine W.widen (k := mc) (n := ms) hc hs ?_
  match v, hF, hret with
  | none, hF, hret =>
    obtain ⟨rfl, e2⟩ := hret
    exact W.vret hx hb (hr.trans e2) (fun t ht hW => ⟨none, h, rfl, by rw [ht]; exact hR, hF⟩) hL hd hlocks
  | some (.inl n), hF, hret =>
    obtain ⟨rfl, ty, e2, e3⟩ := hret
    exact W.zret hx hb (hr.trans e2) e3 (fun t ht hW => ⟨some (aI n), h, rfl, by rw [ht]; exact hR, hF⟩) hL hd hlocks
  | some (.inr (.inl n)), hF, hret =>
    obtain ⟨rfl, e2⟩ := hret
    exact W.lret hx hb (hr.trans e2) (fun t ht hW => ⟨some (aJ n), h, rfl, by rw [ht]; exact hR, hF⟩) hL hd hlocks
  | some (.inr (.inr a)), hF, hret =>
    obtain ⟨rfl, n, e2⟩ := hret
    exact W.aret (v := cv G (.inr (.inr a))) hx hb (hr.trans e2) (Or.inl ⟨_, rfl⟩) (by cases a with
      | none => exact Or.inl rfl
      | some a => exact Or.inr ⟨_, rfl⟩) (fun t ht hW => ⟨some (.inr (.inr a)), h, rfl, by rw [ht]; exact hR, hF⟩) hL hd hlocks
theorem Ct.of_V {G : Gx} {Y : Yx} {d mc ms n : Nat} {as : List AV} {h : AH} {F : Option AV → AH → Prop} {ls : List (Option AV)} (hm : MOK Y n) (hn : noL as = true) (hl : as.length ≤ Y.2.2.1) (he : entL Y.2.2.1 as = ls)
    (k : V G Y d mc ms 0 ls [] h F) : Ct G Y d mc ms as h F := by
  intro l
  refine Met.ofW (cc := Y.2.1) (maxL := Y.2.2.1) (ret := Y.2.2.2) hm.2.2.2.1 rfl ?_
  intro p e s m args below meth c s₁ B hml hP
  obtain ⟨rfl, hR, hKS⟩ := hP
  have hts := atoms_spec (ws := wsx Y) B.pre
  have hls := lv_entry (cS G as) (n := Y.2.2.1) (by rw [lg_sl_len as hn]; exact hl)
  rw [lg_entry_eq]
  generalize (lg_sl (cS G as) ++ List.replicate (Y.2.2.1 - (lg_sl (cS G as)).length) Slot.unset).toArray = lsC at hls ⊢
  have hls' : aLS G ls lsC Y.2.2.1 := ⟨hls.1, hls.2.1, fun q hq => hls.2.2 q (entL_in _ 0 as hn q (by rw [he]; exact hq))⟩
  exact k p l e (rmx d mc ms) s m _ below meth c _ ⟨B.exec, B.bytes, hml, B.returns, B.notSynchronized, findClass_of_methodNamed B.named, (name_of_methodNamed B.named B.method).1, fun w hw => hts w (List.mem_cons_of_mem _ hw), hKS⟩
    (VE_mq B.exec B.bytes B.returns B.notSynchronized) (Nat.le_refl _) (Nat.le_refl _) s.heap [] 0 0 lsC hR (fun _ h => by cases h) (by show 0 + mc ≤ mc; omega) (by show 0 + ms ≤ ms; omega) hls'
theorem Ct.mono {G : Gx} {Y : Yx} {d mc ms : Nat} {as : List AV} {h : AH} {F F' : Option AV → AH → Prop} (hF : ∀ v h, F v h → F' v h) (k : Ct G Y d mc ms as h F) : Ct G Y d mc ms as h F' := by
  intro l p e ha hc hk s m args below hf hP h1 h2
  obtain ⟨j, o, a1, a2, a3, ⟨v, h', q1, q2, q3⟩, q4⟩ := k l p e ha hc hk s m args below hf hP h1 h2
  exact ⟨j, o, a1, a2, a3, ⟨v, h', q1, q2, hF v h' q3⟩, q4⟩
theorem good_all : ∀ w ∈ wsAll, goodWord w = true := fun w hw => (List.mem_filter.mp hw).2
theorem good_x {Y : Yx} {n : Nat} (hm : MOK Y n) : GoodIn wsAll (wsx Y) := by
  intro w hw
  rcases List.mem_cons.mp hw with rfl | hw
  · exact ⟨hm.1, good_of_word (good_all _ hm.1)⟩
  · exact ⟨hw, good_of_word (good_all _ hw)⟩
theorem Pcx_blind {G : Gx} {as : List AV} {h : AH} : FrameBlind (Pcx G as h) := fun a U g mk ⟨h1, h2, h3⟩ => ⟨h1, h2, KS.same (s := U) (U := U.calling g mk a) rfl h3⟩
section VCALL
variable {G : Gx} {Y : Yx} {d rc rs pc : Nat} {ls : List (Option AV)} {st : List AV} {h : AH} {F : Option AV → AH → Prop}
theorem v_runX {p : Program} {l : Launch} {e : Env} {R : Room} {s : State} {m : MethodId} {args : Array Value} {below : List Frame} {meth : Method} {c : Code} {H : Heap} {locs : List Loc} {cells slots mc ms : Nat} {Q : State → Prop} {g : JFrame} {rest : List Value} {Qa : State → Outcome → State → Prop} {free : Addr → Prop}
    (hr : va_Run p l e R s m args below meth c H locs cells slots mc ms g rest Qa free)
    (kk : ∀ (v : Option Value) (st₀ t : State) (L : List Loc), Qa st₀ (.returned v) t → (∀ q ∈ L, free q.base) → W p l e R s m args below meth c t.heap (locs ++ L) (cells + mc) (slots + ms) Q { g with pc := g.pc + 3, stack := v.toList ++ rest }) : W p l e R s m args below meth c H locs cells slots Q g := by
  intro T hT X
  obtain ⟨v, st₀, t, T', L, h0, X', hL, e1, e2, hq, st⟩ := hr T hT X
  obtain ⟨t2, a1, b1⟩ := kk v st₀ t L hq hL T' e1 X'
  exact ⟨t2, st t2 a1, b1⟩
theorem v_back {p : Program} {l : Launch} {e : Env} {R : Room} {s : State} {m : MethodId} {args : Array Value} {below : List Frame} {meth : Method} {c : Code} {H : Heap} {locs : List Loc} {cells slots mc ms : Nat} {Q : State → Prop} {lsC : Array Slot} {g : JFrame} {as : Array Value} {F' : Option AV → AH → Prop} {rest : List AV}
    (hg : g = F0 m pc lsC g.stack)
    (K : ∀ v h', F' v h' → V G Y d rc rs (pc + 3) ls (v.toList ++ rest) h' F) (hC : VC G Y p s m args meth c) (hE : VE G Y p l e R s m args below meth c F Q) (hd1 : d ≤ R.frames) (hl1 : 38 * d ≤ R.locals)
    (hL : ∀ q ∈ locs, gz G ≤ q.base) (hc : cells + (rc + mc) ≤ R.cells) (hs : slots + (rs + ms) ≤ R.slots) (hls : aLS G ls lsC Y.2.2.1)
    (hr : va_Run p l e R s m args below meth c H locs cells slots mc ms g (cS G rest) (Qcx G F' as) (fun q => gz G ≤ q)) : W p l e R s m args below meth c H locs cells slots Q g := by
  refine v_runX hr (fun v st₀ t L hq hL2 => ?_)
  obtain ⟨v', h', e1, e2, e3⟩ := hq
  cases e1
  have := K v' h' e3 p l e R s m args below meth c Q hC hE hd1 hl1 t.heap (locs ++ L) (cells + mc) (slots + ms) lsC e2 (fun q hq => (List.mem_append.mp hq).elim (hL q) (hL2 q)) (by omega) (by omega) hls
  rw [hg]
  rw [cS_app, show cS G v'.toList = (v'.map (cv G)).toList by cases v' <;> rfl] at this
  exact this
theorem v_callV {Y' : Yx} {d' mc ms n idx k a : Nat} {as stk : List AV} {fs : List AV} {F' : Option AV → AH → Prop} (hm : MOK Y' n) (hi : MI Y') (hv : MV Y') (hk : LK Y.1.cls idx Y') (hd : decode Y.2.1 pc = .ok (.invokevirtual idx, 3))
    (hobj : h.2 a = some (aO k fs)) (hcl : (cl[k]?).map (fun r => r.1) = some Y'.1.cls) (hn : as.length = n) (hc : catS st ≤ 8) (hst : stk = as.reverse ++ aR a :: st) (hd' : d' + 1 ≤ d) (C : Ct G Y' d' mc ms (aR a :: as) h F')
    (K : ∀ v h', F' v h' → V G Y d rc rs (pc + 3) ls (v.toList ++ st) h' F) : V G Y d (rc + mc) (rs + ms) pc ls stk h F := by
  intro p l e R s m args below meth c Q hC hE hd1 hl1 H locs cells slots lsC hR hL hc1 hs1 hls
  have hC' := hC
  obtain ⟨hx, hb, hml, -, -, hown, -, hts, hKS⟩ := hC
  subst hst
  have hfix : CallFix p m c Y.2.1 Y.2.2.1 s args wsAll Y.1.cls := ⟨hx, hb, hml, hown, hts⟩
  have hrecv : ∃ cell : Cell, H[Ad G a]? = some cell ∧ cell.vm.isStatics = false ∧ s.vm.findClass Y'.1.cls = some cell.cls := by
    obtain ⟨-, -, r, r1, cell, g1, g2, g3, -⟩ := hR.2.2.2.2 a _ hobj
    rw [r1] at hcl
    have e := Option.some.inj hcl
    exact ⟨cell, g1, by rw [g3]; rfl, by rw [g2, ← e]; exact (hKS.1.1 k r r1).2.1⟩
  have hpre : PreV s H Y'.1.cls (Ad G a) (Pcx G (aR a :: as) h) (cS G as) := ⟨Pcx_blind, hrecv, fun U hU hW => ⟨rfl, by rw [hU]; exact hR, hKS.warm hW⟩⟩
  have hroom : (rmx d' mc ms).frames + 1 ≤ R.frames ∧ 8 + (Y'.2.2.1 + 11) + (rmx d' mc ms).locals ≤ R.locals := by
    have h19 := hm.2.2.2.2
    refine ⟨?_, ?_⟩
    · show d' + 1 ≤ R.frames; omega
    · show 8 + (Y'.2.2.1 + 11) + 38 * d' ≤ R.locals; omega
  have hstk : (F0 m pc lsC (cS G (as.reverse ++ aR a :: st))).stack = (cS G as).reverse ++ Value.ref (Ad G a) :: cS G st := by
    show cS G (as.reverse ++ aR a :: st) = _
    rw [cS_app, cS_rev]; rfl
  have hW8 : 2 * (F0 m pc lsC (cS G (as.reverse ++ aR a :: st))).monitorRoom + ((cS G st).map fun v => v.category).sum ≤ 8 := lv_room (by rw [catS_cS]; exact hc)
  have hlen : (cS G as).length = n := by rw [cS_len]; exact hn
  rcases hk with hk | ⟨host, hk⟩
  · exact v_back rfl K hC' hE hd1 hl1 hL hc1 hs1 hls (va_runV hfix (C l) ⟨callB_of n hts (good_x hm) rfl rfl rfl (hts _ hm.2.1) (hts _ hk) hm.2.2.1 hroom, hts _ hi, hts _ hv⟩ hpre rfl hlen hls.1 hstk hW8 hd ⟨by omega, by omega⟩)
  · exact v_back rfl K hC' hE hd1 hl1 hL hc1 hs1 hls (va_runVN hfix (C l) ⟨va_cnB n hts (good_x hm) rfl rfl rfl (hKS.2.1 _ hk) (hts _ hm.2.1) hm.2.2.1 hroom, hts _ hi, hts _ hv⟩ hpre rfl hlen hls.1 hstk hW8 hd ⟨by omega, by omega⟩)
theorem v_callS {Y' : Yx} {d' mc ms n idx : Nat} {as stk : List AV} {F' : Option AV → AH → Prop} (hm : MOK Y' n) (hi : MS Y') (hk : LK Y.1.cls idx Y') (hd : decode Y.2.1 pc = .ok (.invokestatic idx, 3))
    (hn : as.length = n) (hc : catS st ≤ 8) (hst : stk = as.reverse ++ st) (hd' : d' + 1 ≤ d) (C : Ct G Y' d' mc ms as h F')
    (K : ∀ v h', F' v h' → V G Y d rc rs (pc + 3) ls (v.toList ++ st) h' F) : V G Y d (rc + mc) (rs + ms) pc ls stk h F := by
  intro p l e R s m args below meth c Q hC hE hd1 hl1 H locs cells slots lsC hR hL hc1 hs1 hls
  have hC' := hC
  obtain ⟨hx, hb, hml, -, -, hown, -, hts, hKS⟩ := hC
  subst hst
  have hfix : CallFix p m c Y.2.1 Y.2.2.1 s args wsAll Y.1.cls := ⟨hx, hb, hml, hown, hts⟩
  have hpre : PreS s H (Pcx G as h) (cS G as) := ⟨Pcx_blind, fun U hU hW => ⟨rfl, by rw [hU]; exact hR, hKS.warm hW⟩⟩
  have hroom : (rmx d' mc ms).frames + 1 ≤ R.frames ∧ 8 + (Y'.2.2.1 + 11) + (rmx d' mc ms).locals ≤ R.locals := by
    have h19 := hm.2.2.2.2
    refine ⟨?_, ?_⟩
    · show d' + 1 ≤ R.frames; omega
    · show 8 + (Y'.2.2.1 + 11) + 38 * d' ≤ R.locals; omega
  have hstk : (F0 m pc lsC (cS G (as.reverse ++ st))).stack = (cS G as).reverse ++ cS G st := by
    show cS G (as.reverse ++ st) = _
    rw [cS_app, cS_rev]
  have hW8 : 2 * (F0 m pc lsC (cS G (as.reverse ++ st))).monitorRoom + ((cS G st).map fun v => v.category).sum ≤ 8 := lv_room (by rw [catS_cS]; exact hc)
  have hlen : (cS G as).length = n := by rw [cS_len]; exact hn
  rcases hk with hk | ⟨host, hk⟩
  · exact v_back rfl K hC' hE hd1 hl1 hL hc1 hs1 hls (va_runS hfix (C l) ⟨callB_of n hts (good_x hm) rfl rfl rfl (hts _ hm.2.1) (hts _ hk) hm.2.2.1 hroom, hts _ hi⟩ hpre rfl hlen hls.1 hstk hW8 hd ⟨by omega, by omega⟩)
  · exact v_back rfl K hC' hE hd1 hl1 hL hc1 hs1 hls (va_runSN hfix (C l) ⟨va_cnB n hts (good_x hm) rfl rfl rfl (hKS.2.1 _ hk) (hts _ hm.2.1) hm.2.2.1 hroom, hts _ hi, trivial⟩ hpre rfl hlen hls.1 hstk hW8 hd ⟨by omega, by omega⟩)
theorem v_callI {Y' : Yx} {d' mc ms n idx a : Nat} {as stk : List AV} {F' : Option AV → AH → Prop} (hm : MOK Y' n) (hi : MI Y') (hy : Y'.1.name = "<init>") (hret : Y'.2.2.2 = none) (hk : LK Y.1.cls idx Y') (hd : decode Y.2.1 pc = .ok (.invokespecial idx, 3))
    (hn : as.length = n) (hc : catS st ≤ 8) (hst : stk = as.reverse ++ aR a :: st) (hd' : d' + 1 ≤ d) (C : Ct G Y' d' mc ms (aR a :: as) h F')
    (K : ∀ v h', F' v h' → V G Y d rc rs (pc + 3) ls (v.toList ++ st) h' F) : V G Y d (rc + mc) (rs + ms) pc ls stk h F := by
  intro p l e R s m args below meth c Q hC hE hd1 hl1 H locs cells slots lsC hR hL hc1 hs1 hls
  have hC' := hC
  obtain ⟨hx, hb, hml, -, -, hown, -, hts, hKS⟩ := hC
  subst hst
  obtain ⟨y1, y2, y3, y4⟩ := Y'
  dsimp only at hret
  subst hret
  have hfix : CallFix p m c Y.2.1 Y.2.2.1 s args wsAll Y.1.cls := ⟨hx, hb, hml, hown, hts⟩
  have hpre : PreS s H (Pcx G (aR a :: as) h) (Value.ref (Ad G a) :: cS G as) := ⟨Pcx_blind, fun U hU hW => ⟨rfl, by rw [hU]; exact hR, hKS.warm hW⟩⟩
  have hroom : (rmx d' mc ms).frames + 1 ≤ R.frames ∧ 8 + (y3 + 11) + (rmx d' mc ms).locals ≤ R.locals := by
    have h19 : y3 ≤ 19 := hm.2.2.2.2
    refine ⟨?_, ?_⟩
    · show d' + 1 ≤ R.frames; omega
    · show 8 + (y3 + 11) + 38 * d' ≤ R.locals; omega
  have hstk : (F0 m pc lsC (cS G (as.reverse ++ aR a :: st))).stack = (cS G as).reverse ++ Value.ref (Ad G a) :: cS G st := by
    show cS G (as.reverse ++ aR a :: st) = _
    rw [cS_app, cS_rev]; rfl
  have hW8 : 2 * (F0 m pc lsC (cS G (as.reverse ++ aR a :: st))).monitorRoom + ((cS G st).map fun v => v.category).sum ≤ 8 := lv_room (by rw [catS_cS]; exact hc)
  have hlen : (cS G as).length = n := by rw [cS_len]; exact hn
  rcases hk with hk | ⟨host, hk⟩
  · exact v_back rfl K hC' hE hd1 hl1 hL hc1 hs1 hls (va_runI hfix (C l) ⟨callB_of n hts (good_x hm) rfl rfl rfl (hts _ hm.2.1) (hts _ hk) hm.2.2.1 hroom, hy, hts _ hi⟩ hpre rfl hlen hls.1 hstk hW8 hd ⟨by omega, by omega⟩)
  · exact v_back rfl K hC' hE hd1 hl1 hL hc1 hs1 hls (va_runIN hfix (C l) ⟨va_cnB n hts (good_x hm) rfl rfl rfl (hKS.2.1 _ hk) (hts _ hm.2.1) hm.2.2.1 hroom, hy, hts _ hi⟩ hpre rfl hlen hls.1 hstk hW8 hd ⟨by omega, by omega⟩)
/-- Object's own constructor -/
theorem v_objI {idx a : Nat} (hl : Cond.methodLink Y.1.cls idx objectInit ∈ wsAll) (hd : decode Y.2.1 pc = .ok (.invokespecial idx, 3)) (hc : catS st ≤ 8) (hd' : 1 ≤ d) (K : V G Y d rc rs (pc + 3) ls st h F) : V G Y d rc rs pc ls (aR a :: st) h F := by
  intro p l e R s m args below meth c Q hC hE hd1 hl1 H locs cells slots lsC hR hL hc1 hs1 hls
  have kk := K p l e R s m args below meth c Q hC hE hd1 hl1 H locs cells slots lsC hR hL hc1 hs1 hls
  obtain ⟨hx, hb, hml, -, -, hown, -, hts, hKS⟩ := hC
  have hW8 : 2 * (F0 m pc lsC (cS G (aR a :: st))).monitorRoom + ((cS G st).map fun v => v.category).sum ≤ 8 := lv_room (by rw [catS_cS]; exact hc)
  exact W.objInit hx hb hown (hts _ hl) (hts _ ob_i) (hts _ ob_c) rfl (by rw [hml]; exact hls.1) rfl hd (by omega) (by omega) kk
/-- calls whose answer and heap are told -/
theorem v_callVr {Y' : Yx} {d' n idx k a : Nat} {as stk : List AV} {fs : List AV} {v0 : Option AV} {h0 : AH} (hm : MOK Y' n) (hi : MI Y') (hv : MV Y') (hk : LK Y.1.cls idx Y') (hd : decode Y.2.1 pc = .ok (.invokevirtual idx, 3))
    (hobj : h.2 a = some (aO k fs)) (hcl : (cl[k]?).map (fun r => r.1) = some Y'.1.cls) (hn : as.length = n) (hc : catS st ≤ 8) (hst : stk = as.reverse ++ aR a :: st) (hd' : d' + 1 ≤ d) (C : Ct G Y' d' 0 0 (aR a :: as) h (isR v0 h0))
    (K : V G Y d rc rs (pc + 3) ls (v0.toList ++ st) h0 F) : V G Y d rc rs pc ls stk h F :=
  v_callV (rc := rc) (rs := rs) (mc := 0) (ms := 0) hm hi hv hk hd hobj hcl hn hc hst hd' C (fun v h' q => by obtain ⟨rfl, rfl⟩ := q; exact K)
theorem v_callSr {Y' : Yx} {d' n idx : Nat} {as stk : List AV} {v0 : Option AV} {h0 : AH} (hm : MOK Y' n) (hi : MS Y') (hk : LK Y.1.cls idx Y') (hd : decode Y.2.1 pc = .ok (.invokestatic idx, 3))
    (hn : as.length = n) (hc : catS st ≤ 8) (hst : stk = as.reverse ++ st) (hd' : d' + 1 ≤ d) (C : Ct G Y' d' 0 0 as h (isR v0 h0))
    (K : V G Y d rc rs (pc + 3) ls (v0.toList ++ st) h0 F) : V G Y d rc rs pc ls stk h F :=
  v_callS (rc := rc) (rs := rs) (mc := 0) (ms := 0) hm hi hk hd hn hc hst hd' C (fun v h' q => by obtain ⟨rfl, rfl⟩ := q; exact K)
end VCALL
end
section
/-! what each instruction decodes to (written by wip/whole/tools/gen_dec.py) -/
theorem k_Canon_init_0 : decode Y_Canon_init.2.1 0 = .ok (.aload_n 0, 1) := by decide +kernel
theorem k_Canon_init_1 : decode Y_Canon_init.2.1 1 = .ok (.invokespecial 3, 3) := by decide +kernel
theorem k_Canon_init_4 : decode Y_Canon_init.2.1 4 = .ok (.aload_n 0, 1) := by decide +kernel
theorem k_Canon_init_5 : decode Y_Canon_init.2.1 5 = .ok (.new 9, 3) := by decide +kernel
theorem k_Canon_init_8 : decode Y_Canon_init.2.1 8 = .ok (.dup, 1) := by decide +kernel
theorem k_Canon_init_9 : decode Y_Canon_init.2.1 9 = .ok (.invokespecial 11, 3) := by decide +kernel
theorem k_Canon_init_12 : decode Y_Canon_init.2.1 12 = .ok (.putfield 12, 3) := by decide +kernel
theorem k_Canon_init_15 : decode Y_Canon_init.2.1 15 = .ok (.aload_n 0, 1) := by decide +kernel
theorem k_Canon_init_16 : decode Y_Canon_init.2.1 16 = .ok (.new 18, 3) := by decide +kernel
theorem k_Canon_init_19 : decode Y_Canon_init.2.1 19 = .ok (.dup, 1) := by decide +kernel
theorem k_Canon_init_20 : decode Y_Canon_init.2.1 20 = .ok (.bipush 7, 2) := by decide +kernel
theorem k_Canon_init_22 : decode Y_Canon_init.2.1 22 = .ok (.invokespecial 20, 3) := by decide +kernel
theorem k_Canon_init_25 : decode Y_Canon_init.2.1 25 = .ok (.putfield 23, 3) := by decide +kernel
theorem k_Canon_init_28 : decode Y_Canon_init.2.1 28 = .ok (.aload_n 0, 1) := by decide +kernel
theorem k_Canon_init_29 : decode Y_Canon_init.2.1 29 = .ok (.new 18, 3) := by decide +kernel
theorem k_Canon_init_32 : decode Y_Canon_init.2.1 32 = .ok (.dup, 1) := by decide +kernel
theorem k_Canon_init_33 : decode Y_Canon_init.2.1 33 = .ok (.bipush 7, 2) := by decide +kernel
theorem k_Canon_init_35 : decode Y_Canon_init.2.1 35 = .ok (.invokespecial 20, 3) := by decide +kernel
theorem k_Canon_init_38 : decode Y_Canon_init.2.1 38 = .ok (.putfield 27, 3) := by decide +kernel
theorem k_Canon_init_41 : decode Y_Canon_init.2.1 41 = .ok (.aload_n 0, 1) := by decide +kernel
theorem k_Canon_init_42 : decode Y_Canon_init.2.1 42 = .ok (.new 18, 3) := by decide +kernel
theorem k_Canon_init_45 : decode Y_Canon_init.2.1 45 = .ok (.dup, 1) := by decide +kernel
theorem k_Canon_init_46 : decode Y_Canon_init.2.1 46 = .ok (.bipush 7, 2) := by decide +kernel
theorem k_Canon_init_48 : decode Y_Canon_init.2.1 48 = .ok (.invokespecial 20, 3) := by decide +kernel
theorem k_Canon_init_51 : decode Y_Canon_init.2.1 51 = .ok (.putfield 30, 3) := by decide +kernel
theorem k_Canon_init_54 : decode Y_Canon_init.2.1 54 = .ok (.aload_n 0, 1) := by decide +kernel
theorem k_Canon_init_55 : decode Y_Canon_init.2.1 55 = .ok (.new 18, 3) := by decide +kernel
theorem k_Canon_init_58 : decode Y_Canon_init.2.1 58 = .ok (.dup, 1) := by decide +kernel
theorem k_Canon_init_59 : decode Y_Canon_init.2.1 59 = .ok (.bipush 7, 2) := by decide +kernel
theorem k_Canon_init_61 : decode Y_Canon_init.2.1 61 = .ok (.invokespecial 20, 3) := by decide +kernel
theorem k_Canon_init_64 : decode Y_Canon_init.2.1 64 = .ok (.putfield 33, 3) := by decide +kernel
theorem k_Canon_init_67 : decode Y_Canon_init.2.1 67 = .ok (.aload_n 0, 1) := by decide +kernel
theorem k_Canon_init_68 : decode Y_Canon_init.2.1 68 = .ok (.new 18, 3) := by decide +kernel
theorem k_Canon_init_71 : decode Y_Canon_init.2.1 71 = .ok (.dup, 1) := by decide +kernel
theorem k_Canon_init_72 : decode Y_Canon_init.2.1 72 = .ok (.bipush 7, 2) := by decide +kernel
theorem k_Canon_init_74 : decode Y_Canon_init.2.1 74 = .ok (.invokespecial 20, 3) := by decide +kernel
theorem k_Canon_init_77 : decode Y_Canon_init.2.1 77 = .ok (.putfield 36, 3) := by decide +kernel
theorem k_Canon_init_80 : decode Y_Canon_init.2.1 80 = .ok (.aload_n 0, 1) := by decide +kernel
theorem k_Canon_init_81 : decode Y_Canon_init.2.1 81 = .ok (.iconst 1, 1) := by decide +kernel
theorem k_Canon_init_82 : decode Y_Canon_init.2.1 82 = .ok (.putfield 39, 3) := by decide +kernel
theorem k_Canon_init_85 : decode Y_Canon_init.2.1 85 = .ok (.aload_n 0, 1) := by decide +kernel
theorem k_Canon_init_86 : decode Y_Canon_init.2.1 86 = .ok (.iconst 0, 1) := by decide +kernel
theorem k_Canon_init_87 : decode Y_Canon_init.2.1 87 = .ok (.putfield 43, 3) := by decide +kernel
theorem k_Canon_init_90 : decode Y_Canon_init.2.1 90 = .ok (.aload_n 0, 1) := by decide +kernel
theorem k_Canon_init_91 : decode Y_Canon_init.2.1 91 = .ok (.bipush 53, 2) := by decide +kernel
theorem k_Canon_init_93 : decode Y_Canon_init.2.1 93 = .ok (.putfield 46, 3) := by decide +kernel
theorem k_Canon_init_96 : decode Y_Canon_init.2.1 96 = .ok (.return_, 1) := by decide +kernel
theorem k_Canon_copyFrom_0 : decode Y_Canon_copyFrom.2.1 0 = .ok (.aload_n 1, 1) := by decide +kernel
theorem k_Canon_copyFrom_1 : decode Y_Canon_copyFrom.2.1 1 = .ok (.ifnull 71, 3) := by decide +kernel
theorem k_Canon_copyFrom_4 : decode Y_Canon_copyFrom.2.1 4 = .ok (.aload_n 0, 1) := by decide +kernel
theorem k_Canon_copyFrom_5 : decode Y_Canon_copyFrom.2.1 5 = .ok (.getfield 12, 3) := by decide +kernel
theorem k_Canon_copyFrom_8 : decode Y_Canon_copyFrom.2.1 8 = .ok (.aload_n 1, 1) := by decide +kernel
theorem k_Canon_copyFrom_9 : decode Y_Canon_copyFrom.2.1 9 = .ok (.getfield 12, 3) := by decide +kernel
theorem k_Canon_copyFrom_12 : decode Y_Canon_copyFrom.2.1 12 = .ok (.invokevirtual 49, 3) := by decide +kernel
theorem k_Canon_copyFrom_15 : decode Y_Canon_copyFrom.2.1 15 = .ok (.aload_n 0, 1) := by decide +kernel
theorem k_Canon_copyFrom_16 : decode Y_Canon_copyFrom.2.1 16 = .ok (.getfield 23, 3) := by decide +kernel
theorem k_Canon_copyFrom_19 : decode Y_Canon_copyFrom.2.1 19 = .ok (.aload_n 1, 1) := by decide +kernel
theorem k_Canon_copyFrom_20 : decode Y_Canon_copyFrom.2.1 20 = .ok (.getfield 23, 3) := by decide +kernel
theorem k_Canon_copyFrom_23 : decode Y_Canon_copyFrom.2.1 23 = .ok (.invokevirtual 53, 3) := by decide +kernel
theorem k_Canon_copyFrom_26 : decode Y_Canon_copyFrom.2.1 26 = .ok (.aload_n 0, 1) := by decide +kernel
theorem k_Canon_copyFrom_27 : decode Y_Canon_copyFrom.2.1 27 = .ok (.getfield 27, 3) := by decide +kernel
theorem k_Canon_copyFrom_30 : decode Y_Canon_copyFrom.2.1 30 = .ok (.aload_n 1, 1) := by decide +kernel
theorem k_Canon_copyFrom_31 : decode Y_Canon_copyFrom.2.1 31 = .ok (.getfield 27, 3) := by decide +kernel
theorem k_Canon_copyFrom_34 : decode Y_Canon_copyFrom.2.1 34 = .ok (.invokevirtual 53, 3) := by decide +kernel
theorem k_Canon_copyFrom_37 : decode Y_Canon_copyFrom.2.1 37 = .ok (.aload_n 0, 1) := by decide +kernel
theorem k_Canon_copyFrom_38 : decode Y_Canon_copyFrom.2.1 38 = .ok (.getfield 30, 3) := by decide +kernel
theorem k_Canon_copyFrom_41 : decode Y_Canon_copyFrom.2.1 41 = .ok (.aload_n 1, 1) := by decide +kernel
theorem k_Canon_copyFrom_42 : decode Y_Canon_copyFrom.2.1 42 = .ok (.getfield 30, 3) := by decide +kernel
theorem k_Canon_copyFrom_45 : decode Y_Canon_copyFrom.2.1 45 = .ok (.invokevirtual 53, 3) := by decide +kernel
theorem k_Canon_copyFrom_48 : decode Y_Canon_copyFrom.2.1 48 = .ok (.aload_n 0, 1) := by decide +kernel
theorem k_Canon_copyFrom_49 : decode Y_Canon_copyFrom.2.1 49 = .ok (.aload_n 1, 1) := by decide +kernel
theorem k_Canon_copyFrom_50 : decode Y_Canon_copyFrom.2.1 50 = .ok (.getfield 39, 3) := by decide +kernel
theorem k_Canon_copyFrom_53 : decode Y_Canon_copyFrom.2.1 53 = .ok (.putfield 39, 3) := by decide +kernel
theorem k_Canon_copyFrom_56 : decode Y_Canon_copyFrom.2.1 56 = .ok (.aload_n 0, 1) := by decide +kernel
theorem k_Canon_copyFrom_57 : decode Y_Canon_copyFrom.2.1 57 = .ok (.aload_n 1, 1) := by decide +kernel
theorem k_Canon_copyFrom_58 : decode Y_Canon_copyFrom.2.1 58 = .ok (.getfield 43, 3) := by decide +kernel
theorem k_Canon_copyFrom_61 : decode Y_Canon_copyFrom.2.1 61 = .ok (.putfield 43, 3) := by decide +kernel
theorem k_Canon_copyFrom_64 : decode Y_Canon_copyFrom.2.1 64 = .ok (.aload_n 0, 1) := by decide +kernel
theorem k_Canon_copyFrom_65 : decode Y_Canon_copyFrom.2.1 65 = .ok (.aload_n 1, 1) := by decide +kernel
theorem k_Canon_copyFrom_66 : decode Y_Canon_copyFrom.2.1 66 = .ok (.getfield 46, 3) := by decide +kernel
theorem k_Canon_copyFrom_69 : decode Y_Canon_copyFrom.2.1 69 = .ok (.putfield 46, 3) := by decide +kernel
theorem k_Canon_copyFrom_72 : decode Y_Canon_copyFrom.2.1 72 = .ok (.return_, 1) := by decide +kernel
theorem k_Canon_voices_0 : decode Y_Canon_voices.2.1 0 = .ok (.aload_n 0, 1) := by decide +kernel
theorem k_Canon_voices_1 : decode Y_Canon_voices.2.1 1 = .ok (.getfield 23, 3) := by decide +kernel
theorem k_Canon_voices_4 : decode Y_Canon_voices.2.1 4 = .ok (.invokevirtual 56, 3) := by decide +kernel
theorem k_Canon_voices_7 : decode Y_Canon_voices.2.1 7 = .ok (.ireturn, 1) := by decide +kernel
theorem k_Canon_hasVoice_0 : decode Y_Canon_hasVoice.2.1 0 = .ok (.aload_n 0, 1) := by decide +kernel
theorem k_Canon_hasVoice_1 : decode Y_Canon_hasVoice.2.1 1 = .ok (.getfield 23, 3) := by decide +kernel
theorem k_Canon_hasVoice_4 : decode Y_Canon_hasVoice.2.1 4 = .ok (.iload_n 1, 1) := by decide +kernel
theorem k_Canon_hasVoice_5 : decode Y_Canon_hasVoice.2.1 5 = .ok (.invokevirtual 60, 3) := by decide +kernel
theorem k_Canon_hasVoice_8 : decode Y_Canon_hasVoice.2.1 8 = .ok (.ireturn, 1) := by decide +kernel
theorem k_Canon_kindOf_0 : decode Y_Canon_kindOf.2.1 0 = .ok (.aload_n 0, 1) := by decide +kernel
theorem k_Canon_kindOf_1 : decode Y_Canon_kindOf.2.1 1 = .ok (.getfield 23, 3) := by decide +kernel
theorem k_Canon_kindOf_4 : decode Y_Canon_kindOf.2.1 4 = .ok (.iload_n 1, 1) := by decide +kernel
theorem k_Canon_kindOf_5 : decode Y_Canon_kindOf.2.1 5 = .ok (.invokevirtual 64, 3) := by decide +kernel
theorem k_Canon_kindOf_8 : decode Y_Canon_kindOf.2.1 8 = .ok (.ireturn, 1) := by decide +kernel
theorem k_Canon_entryOf_0 : decode Y_Canon_entryOf.2.1 0 = .ok (.aload_n 0, 1) := by decide +kernel
theorem k_Canon_entryOf_1 : decode Y_Canon_entryOf.2.1 1 = .ok (.getfield 27, 3) := by decide +kernel
theorem k_Canon_entryOf_4 : decode Y_Canon_entryOf.2.1 4 = .ok (.iload_n 1, 1) := by decide +kernel
theorem k_Canon_entryOf_5 : decode Y_Canon_entryOf.2.1 5 = .ok (.invokevirtual 64, 3) := by decide +kernel
theorem k_Canon_entryOf_8 : decode Y_Canon_entryOf.2.1 8 = .ok (.ireturn, 1) := by decide +kernel
theorem k_Canon_highOf_0 : decode Y_Canon_highOf.2.1 0 = .ok (.aload_n 0, 1) := by decide +kernel
theorem k_Canon_highOf_1 : decode Y_Canon_highOf.2.1 1 = .ok (.getfield 30, 3) := by decide +kernel
theorem k_Canon_highOf_4 : decode Y_Canon_highOf.2.1 4 = .ok (.iload_n 1, 1) := by decide +kernel
theorem k_Canon_highOf_5 : decode Y_Canon_highOf.2.1 5 = .ok (.invokevirtual 64, 3) := by decide +kernel
theorem k_Canon_highOf_8 : decode Y_Canon_highOf.2.1 8 = .ok (.ireturn, 1) := by decide +kernel
theorem k_Canon_setEntry_0 : decode Y_Canon_setEntry.2.1 0 = .ok (.aload_n 0, 1) := by decide +kernel
theorem k_Canon_setEntry_1 : decode Y_Canon_setEntry.2.1 1 = .ok (.getfield 27, 3) := by decide +kernel
theorem k_Canon_setEntry_4 : decode Y_Canon_setEntry.2.1 4 = .ok (.iload_n 1, 1) := by decide +kernel
theorem k_Canon_setEntry_5 : decode Y_Canon_setEntry.2.1 5 = .ok (.iload_n 2, 1) := by decide +kernel
theorem k_Canon_setEntry_6 : decode Y_Canon_setEntry.2.1 6 = .ok (.invokevirtual 68, 3) := by decide +kernel
theorem k_Canon_setEntry_9 : decode Y_Canon_setEntry.2.1 9 = .ok (.return_, 1) := by decide +kernel
theorem k_Canon_addVoice_0 : decode Y_Canon_addVoice.2.1 0 = .ok (.aload_n 0, 1) := by decide +kernel
theorem k_Canon_addVoice_1 : decode Y_Canon_addVoice.2.1 1 = .ok (.getfield 23, 3) := by decide +kernel
theorem k_Canon_addVoice_4 : decode Y_Canon_addVoice.2.1 4 = .ok (.iload_n 1, 1) := by decide +kernel
theorem k_Canon_addVoice_5 : decode Y_Canon_addVoice.2.1 5 = .ok (.invokevirtual 72, 3) := by decide +kernel
theorem k_Canon_addVoice_8 : decode Y_Canon_addVoice.2.1 8 = .ok (.aload_n 0, 1) := by decide +kernel
theorem k_Canon_addVoice_9 : decode Y_Canon_addVoice.2.1 9 = .ok (.getfield 27, 3) := by decide +kernel
theorem k_Canon_addVoice_12 : decode Y_Canon_addVoice.2.1 12 = .ok (.iload_n 2, 1) := by decide +kernel
theorem k_Canon_addVoice_13 : decode Y_Canon_addVoice.2.1 13 = .ok (.invokevirtual 72, 3) := by decide +kernel
theorem k_Canon_addVoice_16 : decode Y_Canon_addVoice.2.1 16 = .ok (.aload_n 0, 1) := by decide +kernel
theorem k_Canon_addVoice_17 : decode Y_Canon_addVoice.2.1 17 = .ok (.getfield 30, 3) := by decide +kernel
theorem k_Canon_addVoice_20 : decode Y_Canon_addVoice.2.1 20 = .ok (.iload_n 3, 1) := by decide +kernel
theorem k_Canon_addVoice_21 : decode Y_Canon_addVoice.2.1 21 = .ok (.invokevirtual 72, 3) := by decide +kernel
theorem k_Canon_addVoice_24 : decode Y_Canon_addVoice.2.1 24 = .ok (.return_, 1) := by decide +kernel
theorem k_Canon_tellNote_0 : decode Y_Canon_tellNote.2.1 0 = .ok (.iload_n 2, 1) := by decide +kernel
theorem k_Canon_tellNote_1 : decode Y_Canon_tellNote.2.1 1 = .ok (.iconst 1, 1) := by decide +kernel
theorem k_Canon_tellNote_2 : decode Y_Canon_tellNote.2.1 2 = .ok (.if_icmp .lt 20, 3) := by decide +kernel
theorem k_Canon_tellNote_5 : decode Y_Canon_tellNote.2.1 5 = .ok (.iload_n 2, 1) := by decide +kernel
theorem k_Canon_tellNote_6 : decode Y_Canon_tellNote.2.1 6 = .ok (.iconst 3, 1) := by decide +kernel
theorem k_Canon_tellNote_7 : decode Y_Canon_tellNote.2.1 7 = .ok (.if_icmp .gt 15, 3) := by decide +kernel
theorem k_Canon_tellNote_10 : decode Y_Canon_tellNote.2.1 10 = .ok (.aload_n 0, 1) := by decide +kernel
theorem k_Canon_tellNote_11 : decode Y_Canon_tellNote.2.1 11 = .ok (.getfield 12, 3) := by decide +kernel
theorem k_Canon_tellNote_14 : decode Y_Canon_tellNote.2.1 14 = .ok (.invokevirtual 75, 3) := by decide +kernel
theorem k_Canon_tellNote_17 : decode Y_Canon_tellNote.2.1 17 = .ok (.bipush 12, 2) := by decide +kernel
theorem k_Canon_tellNote_19 : decode Y_Canon_tellNote.2.1 19 = .ok (.if_icmp .lt 5, 3) := by decide +kernel
theorem k_Canon_tellNote_22 : decode Y_Canon_tellNote.2.1 22 = .ok (.iconst 0, 1) := by decide +kernel
theorem k_Canon_tellNote_23 : decode Y_Canon_tellNote.2.1 23 = .ok (.ireturn, 1) := by decide +kernel
theorem k_Canon_tellNote_24 : decode Y_Canon_tellNote.2.1 24 = .ok (.aload_n 0, 1) := by decide +kernel
theorem k_Canon_tellNote_25 : decode Y_Canon_tellNote.2.1 25 = .ok (.getfield 12, 3) := by decide +kernel
theorem k_Canon_tellNote_28 : decode Y_Canon_tellNote.2.1 28 = .ok (.iload_n 1, 1) := by decide +kernel
theorem k_Canon_tellNote_29 : decode Y_Canon_tellNote.2.1 29 = .ok (.iload_n 2, 1) := by decide +kernel
theorem k_Canon_tellNote_30 : decode Y_Canon_tellNote.2.1 30 = .ok (.invokevirtual 78, 3) := by decide +kernel
theorem k_Canon_tellNote_33 : decode Y_Canon_tellNote.2.1 33 = .ok (.iconst 1, 1) := by decide +kernel
theorem k_Canon_tellNote_34 : decode Y_Canon_tellNote.2.1 34 = .ok (.ireturn, 1) := by decide +kernel
theorem k_Canon_tellVoice_0 : decode Y_Canon_tellVoice.2.1 0 = .ok (.iload_n 2, 1) := by decide +kernel
theorem k_Canon_tellVoice_1 : decode Y_Canon_tellVoice.2.1 1 = .ok (.bipush 60, 2) := by decide +kernel
theorem k_Canon_tellVoice_3 : decode Y_Canon_tellVoice.2.1 3 = .ok (.if_icmp .gt 12, 3) := by decide +kernel
theorem k_Canon_tellVoice_6 : decode Y_Canon_tellVoice.2.1 6 = .ok (.aload_n 0, 1) := by decide +kernel
theorem k_Canon_tellVoice_7 : decode Y_Canon_tellVoice.2.1 7 = .ok (.invokevirtual 80, 3) := by decide +kernel
theorem k_Canon_tellVoice_10 : decode Y_Canon_tellVoice.2.1 10 = .ok (.bipush 6, 2) := by decide +kernel
theorem k_Canon_tellVoice_12 : decode Y_Canon_tellVoice.2.1 12 = .ok (.if_icmp .lt 5, 3) := by decide +kernel
theorem k_Canon_tellVoice_15 : decode Y_Canon_tellVoice.2.1 15 = .ok (.iconst 0, 1) := by decide +kernel
theorem k_Canon_tellVoice_16 : decode Y_Canon_tellVoice.2.1 16 = .ok (.ireturn, 1) := by decide +kernel
theorem k_Canon_tellVoice_17 : decode Y_Canon_tellVoice.2.1 17 = .ok (.aload_n 0, 1) := by decide +kernel
theorem k_Canon_tellVoice_18 : decode Y_Canon_tellVoice.2.1 18 = .ok (.iload_n 1, 1) := by decide +kernel
theorem k_Canon_tellVoice_19 : decode Y_Canon_tellVoice.2.1 19 = .ok (.iload_n 2, 1) := by decide +kernel
theorem k_Canon_tellVoice_20 : decode Y_Canon_tellVoice.2.1 20 = .ok (.iload_n 3, 1) := by decide +kernel
theorem k_Canon_tellVoice_21 : decode Y_Canon_tellVoice.2.1 21 = .ok (.invokevirtual 83, 3) := by decide +kernel
theorem k_Canon_tellVoice_24 : decode Y_Canon_tellVoice.2.1 24 = .ok (.iconst 1, 1) := by decide +kernel
theorem k_Canon_tellVoice_25 : decode Y_Canon_tellVoice.2.1 25 = .ok (.ireturn, 1) := by decide +kernel
theorem k_Canon_tellRounds_0 : decode Y_Canon_tellRounds.2.1 0 = .ok (.iload_n 1, 1) := by decide +kernel
theorem k_Canon_tellRounds_1 : decode Y_Canon_tellRounds.2.1 1 = .ok (.iconst 1, 1) := by decide +kernel
theorem k_Canon_tellRounds_2 : decode Y_Canon_tellRounds.2.1 2 = .ok (.if_icmp .lt 13, 3) := by decide +kernel
theorem k_Canon_tellRounds_5 : decode Y_Canon_tellRounds.2.1 5 = .ok (.iload_n 1, 1) := by decide +kernel
theorem k_Canon_tellRounds_6 : decode Y_Canon_tellRounds.2.1 6 = .ok (.iconst 4, 1) := by decide +kernel
theorem k_Canon_tellRounds_7 : decode Y_Canon_tellRounds.2.1 7 = .ok (.if_icmp .gt 8, 3) := by decide +kernel
theorem k_Canon_tellRounds_10 : decode Y_Canon_tellRounds.2.1 10 = .ok (.iload_n 2, 1) := by decide +kernel
theorem k_Canon_tellRounds_11 : decode Y_Canon_tellRounds.2.1 11 = .ok (.iconst 2, 1) := by decide +kernel
theorem k_Canon_tellRounds_12 : decode Y_Canon_tellRounds.2.1 12 = .ok (.if_icmp .le 5, 3) := by decide +kernel
theorem k_Canon_tellRounds_15 : decode Y_Canon_tellRounds.2.1 15 = .ok (.iconst 0, 1) := by decide +kernel
theorem k_Canon_tellRounds_16 : decode Y_Canon_tellRounds.2.1 16 = .ok (.ireturn, 1) := by decide +kernel
theorem k_Canon_tellRounds_17 : decode Y_Canon_tellRounds.2.1 17 = .ok (.aload_n 0, 1) := by decide +kernel
theorem k_Canon_tellRounds_18 : decode Y_Canon_tellRounds.2.1 18 = .ok (.iload_n 1, 1) := by decide +kernel
theorem k_Canon_tellRounds_19 : decode Y_Canon_tellRounds.2.1 19 = .ok (.putfield 39, 3) := by decide +kernel
theorem k_Canon_tellRounds_22 : decode Y_Canon_tellRounds.2.1 22 = .ok (.aload_n 0, 1) := by decide +kernel
theorem k_Canon_tellRounds_23 : decode Y_Canon_tellRounds.2.1 23 = .ok (.iload_n 2, 1) := by decide +kernel
theorem k_Canon_tellRounds_24 : decode Y_Canon_tellRounds.2.1 24 = .ok (.putfield 43, 3) := by decide +kernel
theorem k_Canon_tellRounds_27 : decode Y_Canon_tellRounds.2.1 27 = .ok (.iconst 1, 1) := by decide +kernel
theorem k_Canon_tellRounds_28 : decode Y_Canon_tellRounds.2.1 28 = .ok (.ireturn, 1) := by decide +kernel
theorem k_Canon_tellWell_0 : decode Y_Canon_tellWell.2.1 0 = .ok (.iload_n 1, 1) := by decide +kernel
theorem k_Canon_tellWell_1 : decode Y_Canon_tellWell.2.1 1 = .ok (.bipush 7, 2) := by decide +kernel
theorem k_Canon_tellWell_3 : decode Y_Canon_tellWell.2.1 3 = .ok (.if_icmp .lt 5, 3) := by decide +kernel
theorem k_Canon_tellWell_6 : decode Y_Canon_tellWell.2.1 6 = .ok (.iconst 0, 1) := by decide +kernel
theorem k_Canon_tellWell_7 : decode Y_Canon_tellWell.2.1 7 = .ok (.ireturn, 1) := by decide +kernel
theorem k_Canon_tellWell_8 : decode Y_Canon_tellWell.2.1 8 = .ok (.aload_n 0, 1) := by decide +kernel
theorem k_Canon_tellWell_9 : decode Y_Canon_tellWell.2.1 9 = .ok (.dup, 1) := by decide +kernel
theorem k_Canon_tellWell_10 : decode Y_Canon_tellWell.2.1 10 = .ok (.getfield 46, 3) := by decide +kernel
theorem k_Canon_tellWell_13 : decode Y_Canon_tellWell.2.1 13 = .ok (.iconst 1, 1) := by decide +kernel
theorem k_Canon_tellWell_14 : decode Y_Canon_tellWell.2.1 14 = .ok (.iload_n 1, 1) := by decide +kernel
theorem k_Canon_tellWell_15 : decode Y_Canon_tellWell.2.1 15 = .ok (.ishl, 1) := by decide +kernel
theorem k_Canon_tellWell_16 : decode Y_Canon_tellWell.2.1 16 = .ok (.ixor, 1) := by decide +kernel
theorem k_Canon_tellWell_17 : decode Y_Canon_tellWell.2.1 17 = .ok (.putfield 46, 3) := by decide +kernel
theorem k_Canon_tellWell_20 : decode Y_Canon_tellWell.2.1 20 = .ok (.iconst 1, 1) := by decide +kernel
theorem k_Canon_tellWell_21 : decode Y_Canon_tellWell.2.1 21 = .ok (.ireturn, 1) := by decide +kernel
theorem k_Canon_roundBeats_0 : decode Y_Canon_roundBeats.2.1 0 = .ok (.aload_n 0, 1) := by decide +kernel
theorem k_Canon_roundBeats_1 : decode Y_Canon_roundBeats.2.1 1 = .ok (.getfield 23, 3) := by decide +kernel
theorem k_Canon_roundBeats_4 : decode Y_Canon_roundBeats.2.1 4 = .ok (.iload_n 1, 1) := by decide +kernel
theorem k_Canon_roundBeats_5 : decode Y_Canon_roundBeats.2.1 5 = .ok (.invokevirtual 64, 3) := by decide +kernel
theorem k_Canon_roundBeats_8 : decode Y_Canon_roundBeats.2.1 8 = .ok (.iconst 3, 1) := by decide +kernel
theorem k_Canon_roundBeats_9 : decode Y_Canon_roundBeats.2.1 9 = .ok (.if_icmp .ne 15, 3) := by decide +kernel
theorem k_Canon_roundBeats_12 : decode Y_Canon_roundBeats.2.1 12 = .ok (.iconst 2, 1) := by decide +kernel
theorem k_Canon_roundBeats_13 : decode Y_Canon_roundBeats.2.1 13 = .ok (.aload_n 0, 1) := by decide +kernel
theorem k_Canon_roundBeats_14 : decode Y_Canon_roundBeats.2.1 14 = .ok (.getfield 12, 3) := by decide +kernel
theorem k_Canon_roundBeats_17 : decode Y_Canon_roundBeats.2.1 17 = .ok (.getfield 87, 3) := by decide +kernel
theorem k_Canon_roundBeats_20 : decode Y_Canon_roundBeats.2.1 20 = .ok (.imul, 1) := by decide +kernel
theorem k_Canon_roundBeats_21 : decode Y_Canon_roundBeats.2.1 21 = .ok (.goto 10, 3) := by decide +kernel
theorem k_Canon_roundBeats_24 : decode Y_Canon_roundBeats.2.1 24 = .ok (.aload_n 0, 1) := by decide +kernel
theorem k_Canon_roundBeats_25 : decode Y_Canon_roundBeats.2.1 25 = .ok (.getfield 12, 3) := by decide +kernel
theorem k_Canon_roundBeats_28 : decode Y_Canon_roundBeats.2.1 28 = .ok (.getfield 87, 3) := by decide +kernel
theorem k_Canon_roundBeats_31 : decode Y_Canon_roundBeats.2.1 31 = .ok (.ireturn, 1) := by decide +kernel
theorem k_Canon_stillFrom_0 : decode Y_Canon_stillFrom.2.1 0 = .ok (.aload_n 0, 1) := by decide +kernel
theorem k_Canon_stillFrom_1 : decode Y_Canon_stillFrom.2.1 1 = .ok (.getfield 27, 3) := by decide +kernel
theorem k_Canon_stillFrom_4 : decode Y_Canon_stillFrom.2.1 4 = .ok (.iload_n 1, 1) := by decide +kernel
theorem k_Canon_stillFrom_5 : decode Y_Canon_stillFrom.2.1 5 = .ok (.invokevirtual 64, 3) := by decide +kernel
theorem k_Canon_stillFrom_8 : decode Y_Canon_stillFrom.2.1 8 = .ok (.aload_n 0, 1) := by decide +kernel
theorem k_Canon_stillFrom_9 : decode Y_Canon_stillFrom.2.1 9 = .ok (.getfield 39, 3) := by decide +kernel
theorem k_Canon_stillFrom_12 : decode Y_Canon_stillFrom.2.1 12 = .ok (.aload_n 0, 1) := by decide +kernel
theorem k_Canon_stillFrom_13 : decode Y_Canon_stillFrom.2.1 13 = .ok (.iload_n 1, 1) := by decide +kernel
theorem k_Canon_stillFrom_14 : decode Y_Canon_stillFrom.2.1 14 = .ok (.invokevirtual 90, 3) := by decide +kernel
theorem k_Canon_stillFrom_17 : decode Y_Canon_stillFrom.2.1 17 = .ok (.imul, 1) := by decide +kernel
theorem k_Canon_stillFrom_18 : decode Y_Canon_stillFrom.2.1 18 = .ok (.iadd, 1) := by decide +kernel
theorem k_Canon_stillFrom_19 : decode Y_Canon_stillFrom.2.1 19 = .ok (.ireturn, 1) := by decide +kernel
theorem k_Canon_end_0 : decode Y_Canon_end.2.1 0 = .ok (.iconst 0, 1) := by decide +kernel
theorem k_Canon_end_1 : decode Y_Canon_end.2.1 1 = .ok (.istore_n 1, 1) := by decide +kernel
theorem k_Canon_end_2 : decode Y_Canon_end.2.1 2 = .ok (.iconst 0, 1) := by decide +kernel
theorem k_Canon_end_3 : decode Y_Canon_end.2.1 3 = .ok (.istore_n 2, 1) := by decide +kernel
theorem k_Canon_end_4 : decode Y_Canon_end.2.1 4 = .ok (.iload_n 2, 1) := by decide +kernel
theorem k_Canon_end_5 : decode Y_Canon_end.2.1 5 = .ok (.aload_n 0, 1) := by decide +kernel
theorem k_Canon_end_6 : decode Y_Canon_end.2.1 6 = .ok (.invokevirtual 80, 3) := by decide +kernel
theorem k_Canon_end_9 : decode Y_Canon_end.2.1 9 = .ok (.if_icmp .ge 29, 3) := by decide +kernel
theorem k_Canon_end_12 : decode Y_Canon_end.2.1 12 = .ok (.aload_n 0, 1) := by decide +kernel
theorem k_Canon_end_13 : decode Y_Canon_end.2.1 13 = .ok (.getfield 12, 3) := by decide +kernel
theorem k_Canon_end_16 : decode Y_Canon_end.2.1 16 = .ok (.getfield 87, 3) := by decide +kernel
theorem k_Canon_end_19 : decode Y_Canon_end.2.1 19 = .ok (.ifCond .le 19, 3) := by decide +kernel
theorem k_Canon_end_22 : decode Y_Canon_end.2.1 22 = .ok (.iload_n 1, 1) := by decide +kernel
theorem k_Canon_end_23 : decode Y_Canon_end.2.1 23 = .ok (.aload_n 0, 1) := by decide +kernel
theorem k_Canon_end_24 : decode Y_Canon_end.2.1 24 = .ok (.iload_n 2, 1) := by decide +kernel
theorem k_Canon_end_25 : decode Y_Canon_end.2.1 25 = .ok (.invokevirtual 93, 3) := by decide +kernel
theorem k_Canon_end_28 : decode Y_Canon_end.2.1 28 = .ok (.invokestatic 96, 3) := by decide +kernel
theorem k_Canon_end_31 : decode Y_Canon_end.2.1 31 = .ok (.istore_n 1, 1) := by decide +kernel
theorem k_Canon_end_32 : decode Y_Canon_end.2.1 32 = .ok (.iinc 2 1, 3) := by decide +kernel
theorem k_Canon_end_35 : decode Y_Canon_end.2.1 35 = .ok (.goto (-31), 3) := by decide +kernel
theorem k_Canon_end_38 : decode Y_Canon_end.2.1 38 = .ok (.iload_n 1, 1) := by decide +kernel
theorem k_Canon_end_39 : decode Y_Canon_end.2.1 39 = .ok (.ireturn, 1) := by decide +kernel
theorem k_Canon_noteSung_0 : decode Y_Canon_noteSung.2.1 0 = .ok (.aload_n 0, 1) := by decide +kernel
theorem k_Canon_noteSung_1 : decode Y_Canon_noteSung.2.1 1 = .ok (.iload_n 1, 1) := by decide +kernel
theorem k_Canon_noteSung_2 : decode Y_Canon_noteSung.2.1 2 = .ok (.invokevirtual 90, 3) := by decide +kernel
theorem k_Canon_noteSung_5 : decode Y_Canon_noteSung.2.1 5 = .ok (.istore_n 3, 1) := by decide +kernel
theorem k_Canon_noteSung_6 : decode Y_Canon_noteSung.2.1 6 = .ok (.iload_n 2, 1) := by decide +kernel
theorem k_Canon_noteSung_7 : decode Y_Canon_noteSung.2.1 7 = .ok (.aload_n 0, 1) := by decide +kernel
theorem k_Canon_noteSung_8 : decode Y_Canon_noteSung.2.1 8 = .ok (.getfield 27, 3) := by decide +kernel
theorem k_Canon_noteSung_11 : decode Y_Canon_noteSung.2.1 11 = .ok (.iload_n 1, 1) := by decide +kernel
theorem k_Canon_noteSung_12 : decode Y_Canon_noteSung.2.1 12 = .ok (.invokevirtual 64, 3) := by decide +kernel
theorem k_Canon_noteSung_15 : decode Y_Canon_noteSung.2.1 15 = .ok (.isub, 1) := by decide +kernel
theorem k_Canon_noteSung_16 : decode Y_Canon_noteSung.2.1 16 = .ok (.istore 4, 2) := by decide +kernel
theorem k_Canon_noteSung_18 : decode Y_Canon_noteSung.2.1 18 = .ok (.iload_n 3, 1) := by decide +kernel
theorem k_Canon_noteSung_19 : decode Y_Canon_noteSung.2.1 19 = .ok (.ifCond .le 19, 3) := by decide +kernel
theorem k_Canon_noteSung_22 : decode Y_Canon_noteSung.2.1 22 = .ok (.iload 4, 2) := by decide +kernel
theorem k_Canon_noteSung_24 : decode Y_Canon_noteSung.2.1 24 = .ok (.ifCond .lt 14, 3) := by decide +kernel
theorem k_Canon_noteSung_27 : decode Y_Canon_noteSung.2.1 27 = .ok (.iload 4, 2) := by decide +kernel
theorem k_Canon_noteSung_29 : decode Y_Canon_noteSung.2.1 29 = .ok (.aload_n 0, 1) := by decide +kernel
theorem k_Canon_noteSung_30 : decode Y_Canon_noteSung.2.1 30 = .ok (.getfield 39, 3) := by decide +kernel
theorem k_Canon_noteSung_33 : decode Y_Canon_noteSung.2.1 33 = .ok (.iload_n 3, 1) := by decide +kernel
theorem k_Canon_noteSung_34 : decode Y_Canon_noteSung.2.1 34 = .ok (.imul, 1) := by decide +kernel
theorem k_Canon_noteSung_35 : decode Y_Canon_noteSung.2.1 35 = .ok (.if_icmp .lt 5, 3) := by decide +kernel
theorem k_Canon_noteSung_38 : decode Y_Canon_noteSung.2.1 38 = .ok (.iconst (-1), 1) := by decide +kernel
theorem k_Canon_noteSung_39 : decode Y_Canon_noteSung.2.1 39 = .ok (.ireturn, 1) := by decide +kernel
theorem k_Canon_noteSung_40 : decode Y_Canon_noteSung.2.1 40 = .ok (.iload 4, 2) := by decide +kernel
theorem k_Canon_noteSung_42 : decode Y_Canon_noteSung.2.1 42 = .ok (.iload_n 3, 1) := by decide +kernel
theorem k_Canon_noteSung_43 : decode Y_Canon_noteSung.2.1 43 = .ok (.irem, 1) := by decide +kernel
theorem k_Canon_noteSung_44 : decode Y_Canon_noteSung.2.1 44 = .ok (.istore 5, 2) := by decide +kernel
theorem k_Canon_noteSung_46 : decode Y_Canon_noteSung.2.1 46 = .ok (.aload_n 0, 1) := by decide +kernel
theorem k_Canon_noteSung_47 : decode Y_Canon_noteSung.2.1 47 = .ok (.getfield 23, 3) := by decide +kernel
theorem k_Canon_noteSung_50 : decode Y_Canon_noteSung.2.1 50 = .ok (.iload_n 1, 1) := by decide +kernel
theorem k_Canon_noteSung_51 : decode Y_Canon_noteSung.2.1 51 = .ok (.invokevirtual 64, 3) := by decide +kernel
theorem k_Canon_noteSung_54 : decode Y_Canon_noteSung.2.1 54 = .ok (.tableswitch 66 1 5 #[34, 66, 54, 66, 34], 34) := by decide +kernel
theorem k_Canon_noteSung_88 : decode Y_Canon_noteSung.2.1 88 = .ok (.aload_n 0, 1) := by decide +kernel
theorem k_Canon_noteSung_89 : decode Y_Canon_noteSung.2.1 89 = .ok (.getfield 12, 3) := by decide +kernel
theorem k_Canon_noteSung_92 : decode Y_Canon_noteSung.2.1 92 = .ok (.aload_n 0, 1) := by decide +kernel
theorem k_Canon_noteSung_93 : decode Y_Canon_noteSung.2.1 93 = .ok (.getfield 12, 3) := by decide +kernel
theorem k_Canon_noteSung_96 : decode Y_Canon_noteSung.2.1 96 = .ok (.getfield 87, 3) := by decide +kernel
theorem k_Canon_noteSung_99 : decode Y_Canon_noteSung.2.1 99 = .ok (.iconst 1, 1) := by decide +kernel
theorem k_Canon_noteSung_100 : decode Y_Canon_noteSung.2.1 100 = .ok (.isub, 1) := by decide +kernel
theorem k_Canon_noteSung_101 : decode Y_Canon_noteSung.2.1 101 = .ok (.iload 5, 2) := by decide +kernel
theorem k_Canon_noteSung_103 : decode Y_Canon_noteSung.2.1 103 = .ok (.isub, 1) := by decide +kernel
theorem k_Canon_noteSung_104 : decode Y_Canon_noteSung.2.1 104 = .ok (.invokevirtual 102, 3) := by decide +kernel
theorem k_Canon_noteSung_107 : decode Y_Canon_noteSung.2.1 107 = .ok (.ireturn, 1) := by decide +kernel
theorem k_Canon_noteSung_108 : decode Y_Canon_noteSung.2.1 108 = .ok (.aload_n 0, 1) := by decide +kernel
theorem k_Canon_noteSung_109 : decode Y_Canon_noteSung.2.1 109 = .ok (.getfield 12, 3) := by decide +kernel
theorem k_Canon_noteSung_112 : decode Y_Canon_noteSung.2.1 112 = .ok (.iload 5, 2) := by decide +kernel
theorem k_Canon_noteSung_114 : decode Y_Canon_noteSung.2.1 114 = .ok (.iconst 2, 1) := by decide +kernel
theorem k_Canon_noteSung_115 : decode Y_Canon_noteSung.2.1 115 = .ok (.idiv, 1) := by decide +kernel
theorem k_Canon_noteSung_116 : decode Y_Canon_noteSung.2.1 116 = .ok (.invokevirtual 102, 3) := by decide +kernel
theorem k_Canon_noteSung_119 : decode Y_Canon_noteSung.2.1 119 = .ok (.ireturn, 1) := by decide +kernel
theorem k_Canon_noteSung_120 : decode Y_Canon_noteSung.2.1 120 = .ok (.aload_n 0, 1) := by decide +kernel
theorem k_Canon_noteSung_121 : decode Y_Canon_noteSung.2.1 121 = .ok (.getfield 12, 3) := by decide +kernel
theorem k_Canon_noteSung_124 : decode Y_Canon_noteSung.2.1 124 = .ok (.iload 5, 2) := by decide +kernel
theorem k_Canon_noteSung_126 : decode Y_Canon_noteSung.2.1 126 = .ok (.invokevirtual 102, 3) := by decide +kernel
theorem k_Canon_noteSung_129 : decode Y_Canon_noteSung.2.1 129 = .ok (.ireturn, 1) := by decide +kernel
theorem k_Canon_isTurned_0 : decode Y_Canon_isTurned.2.1 0 = .ok (.aload_n 0, 1) := by decide +kernel
theorem k_Canon_isTurned_1 : decode Y_Canon_isTurned.2.1 1 = .ok (.getfield 23, 3) := by decide +kernel
theorem k_Canon_isTurned_4 : decode Y_Canon_isTurned.2.1 4 = .ok (.iload_n 1, 1) := by decide +kernel
theorem k_Canon_isTurned_5 : decode Y_Canon_isTurned.2.1 5 = .ok (.invokevirtual 64, 3) := by decide +kernel
theorem k_Canon_isTurned_8 : decode Y_Canon_isTurned.2.1 8 = .ok (.istore_n 2, 1) := by decide +kernel
theorem k_Canon_isTurned_9 : decode Y_Canon_isTurned.2.1 9 = .ok (.iload_n 2, 1) := by decide +kernel
theorem k_Canon_isTurned_10 : decode Y_Canon_isTurned.2.1 10 = .ok (.iconst 2, 1) := by decide +kernel
theorem k_Canon_isTurned_11 : decode Y_Canon_isTurned.2.1 11 = .ok (.if_icmp .eq 8, 3) := by decide +kernel
theorem k_Canon_isTurned_14 : decode Y_Canon_isTurned.2.1 14 = .ok (.iload_n 2, 1) := by decide +kernel
theorem k_Canon_isTurned_15 : decode Y_Canon_isTurned.2.1 15 = .ok (.iconst 5, 1) := by decide +kernel
theorem k_Canon_isTurned_16 : decode Y_Canon_isTurned.2.1 16 = .ok (.if_icmp .ne 7, 3) := by decide +kernel
theorem k_Canon_isTurned_19 : decode Y_Canon_isTurned.2.1 19 = .ok (.iconst 1, 1) := by decide +kernel
theorem k_Canon_isTurned_20 : decode Y_Canon_isTurned.2.1 20 = .ok (.goto 4, 3) := by decide +kernel
theorem k_Canon_isTurned_23 : decode Y_Canon_isTurned.2.1 23 = .ok (.iconst 0, 1) := by decide +kernel
theorem k_Canon_isTurned_24 : decode Y_Canon_isTurned.2.1 24 = .ok (.ireturn, 1) := by decide +kernel
theorem k_Canon_lift_0 : decode Y_Canon_lift.2.1 0 = .ok (.aload_n 0, 1) := by decide +kernel
theorem k_Canon_lift_1 : decode Y_Canon_lift.2.1 1 = .ok (.iload_n 1, 1) := by decide +kernel
theorem k_Canon_lift_2 : decode Y_Canon_lift.2.1 2 = .ok (.invokevirtual 90, 3) := by decide +kernel
theorem k_Canon_lift_5 : decode Y_Canon_lift.2.1 5 = .ok (.istore_n 3, 1) := by decide +kernel
theorem k_Canon_lift_6 : decode Y_Canon_lift.2.1 6 = .ok (.iload_n 3, 1) := by decide +kernel
theorem k_Canon_lift_7 : decode Y_Canon_lift.2.1 7 = .ok (.ifCond .le 18, 3) := by decide +kernel
theorem k_Canon_lift_10 : decode Y_Canon_lift.2.1 10 = .ok (.iload_n 2, 1) := by decide +kernel
theorem k_Canon_lift_11 : decode Y_Canon_lift.2.1 11 = .ok (.aload_n 0, 1) := by decide +kernel
theorem k_Canon_lift_12 : decode Y_Canon_lift.2.1 12 = .ok (.getfield 27, 3) := by decide +kernel
theorem k_Canon_lift_15 : decode Y_Canon_lift.2.1 15 = .ok (.iload_n 1, 1) := by decide +kernel
theorem k_Canon_lift_16 : decode Y_Canon_lift.2.1 16 = .ok (.invokevirtual 64, 3) := by decide +kernel
theorem k_Canon_lift_19 : decode Y_Canon_lift.2.1 19 = .ok (.isub, 1) := by decide +kernel
theorem k_Canon_lift_20 : decode Y_Canon_lift.2.1 20 = .ok (.iload_n 3, 1) := by decide +kernel
theorem k_Canon_lift_21 : decode Y_Canon_lift.2.1 21 = .ok (.idiv, 1) := by decide +kernel
theorem k_Canon_lift_22 : decode Y_Canon_lift.2.1 22 = .ok (.goto 4, 3) := by decide +kernel
theorem k_Canon_lift_25 : decode Y_Canon_lift.2.1 25 = .ok (.iconst 0, 1) := by decide +kernel
theorem k_Canon_lift_26 : decode Y_Canon_lift.2.1 26 = .ok (.istore 4, 2) := by decide +kernel
theorem k_Canon_lift_28 : decode Y_Canon_lift.2.1 28 = .ok (.aload_n 0, 1) := by decide +kernel
theorem k_Canon_lift_29 : decode Y_Canon_lift.2.1 29 = .ok (.getfield 23, 3) := by decide +kernel
theorem k_Canon_lift_32 : decode Y_Canon_lift.2.1 32 = .ok (.iload_n 1, 1) := by decide +kernel
theorem k_Canon_lift_33 : decode Y_Canon_lift.2.1 33 = .ok (.invokevirtual 64, 3) := by decide +kernel
theorem k_Canon_lift_36 : decode Y_Canon_lift.2.1 36 = .ok (.iconst 4, 1) := by decide +kernel
theorem k_Canon_lift_37 : decode Y_Canon_lift.2.1 37 = .ok (.if_icmp .ne 7, 3) := by decide +kernel
theorem k_Canon_lift_40 : decode Y_Canon_lift.2.1 40 = .ok (.iconst 4, 1) := by decide +kernel
theorem k_Canon_lift_41 : decode Y_Canon_lift.2.1 41 = .ok (.goto 4, 3) := by decide +kernel
theorem k_Canon_lift_44 : decode Y_Canon_lift.2.1 44 = .ok (.iconst 0, 1) := by decide +kernel
theorem k_Canon_lift_45 : decode Y_Canon_lift.2.1 45 = .ok (.istore 5, 2) := by decide +kernel
theorem k_Canon_lift_47 : decode Y_Canon_lift.2.1 47 = .ok (.iload 5, 2) := by decide +kernel
theorem k_Canon_lift_49 : decode Y_Canon_lift.2.1 49 = .ok (.aload_n 0, 1) := by decide +kernel
theorem k_Canon_lift_50 : decode Y_Canon_lift.2.1 50 = .ok (.getfield 30, 3) := by decide +kernel
theorem k_Canon_lift_53 : decode Y_Canon_lift.2.1 53 = .ok (.iload_n 1, 1) := by decide +kernel
theorem k_Canon_lift_54 : decode Y_Canon_lift.2.1 54 = .ok (.invokevirtual 64, 3) := by decide +kernel
theorem k_Canon_lift_57 : decode Y_Canon_lift.2.1 57 = .ok (.iadd, 1) := by decide +kernel
theorem k_Canon_lift_58 : decode Y_Canon_lift.2.1 58 = .ok (.aload_n 0, 1) := by decide +kernel
theorem k_Canon_lift_59 : decode Y_Canon_lift.2.1 59 = .ok (.getfield 43, 3) := by decide +kernel
theorem k_Canon_lift_62 : decode Y_Canon_lift.2.1 62 = .ok (.iload 4, 2) := by decide +kernel
theorem k_Canon_lift_64 : decode Y_Canon_lift.2.1 64 = .ok (.imul, 1) := by decide +kernel
theorem k_Canon_lift_65 : decode Y_Canon_lift.2.1 65 = .ok (.iadd, 1) := by decide +kernel
theorem k_Canon_lift_66 : decode Y_Canon_lift.2.1 66 = .ok (.ireturn, 1) := by decide +kernel
theorem k_Canon_soundOf_0 : decode Y_Canon_soundOf.2.1 0 = .ok (.aload_n 0, 1) := by decide +kernel
theorem k_Canon_soundOf_1 : decode Y_Canon_soundOf.2.1 1 = .ok (.iload_n 1, 1) := by decide +kernel
theorem k_Canon_soundOf_2 : decode Y_Canon_soundOf.2.1 2 = .ok (.iload_n 2, 1) := by decide +kernel
theorem k_Canon_soundOf_3 : decode Y_Canon_soundOf.2.1 3 = .ok (.invokevirtual 105, 3) := by decide +kernel
theorem k_Canon_soundOf_6 : decode Y_Canon_soundOf.2.1 6 = .ok (.istore_n 3, 1) := by decide +kernel
theorem k_Canon_soundOf_7 : decode Y_Canon_soundOf.2.1 7 = .ok (.iload_n 3, 1) := by decide +kernel
theorem k_Canon_soundOf_8 : decode Y_Canon_soundOf.2.1 8 = .ok (.ifCond .ge 7, 3) := by decide +kernel
theorem k_Canon_soundOf_11 : decode Y_Canon_soundOf.2.1 11 = .ok (.sipush 999, 3) := by decide +kernel
theorem k_Canon_soundOf_14 : decode Y_Canon_soundOf.2.1 14 = .ok (.ireturn, 1) := by decide +kernel
theorem k_Canon_soundOf_15 : decode Y_Canon_soundOf.2.1 15 = .ok (.aload_n 0, 1) := by decide +kernel
theorem k_Canon_soundOf_16 : decode Y_Canon_soundOf.2.1 16 = .ok (.getfield 12, 3) := by decide +kernel
theorem k_Canon_soundOf_19 : decode Y_Canon_soundOf.2.1 19 = .ok (.iload_n 3, 1) := by decide +kernel
theorem k_Canon_soundOf_20 : decode Y_Canon_soundOf.2.1 20 = .ok (.invokevirtual 108, 3) := by decide +kernel
theorem k_Canon_soundOf_23 : decode Y_Canon_soundOf.2.1 23 = .ok (.istore 4, 2) := by decide +kernel
theorem k_Canon_soundOf_25 : decode Y_Canon_soundOf.2.1 25 = .ok (.aload_n 0, 1) := by decide +kernel
theorem k_Canon_soundOf_26 : decode Y_Canon_soundOf.2.1 26 = .ok (.iload_n 1, 1) := by decide +kernel
theorem k_Canon_soundOf_27 : decode Y_Canon_soundOf.2.1 27 = .ok (.invokevirtual 111, 3) := by decide +kernel
theorem k_Canon_soundOf_30 : decode Y_Canon_soundOf.2.1 30 = .ok (.ifCond .eq 19, 3) := by decide +kernel
theorem k_Canon_soundOf_33 : decode Y_Canon_soundOf.2.1 33 = .ok (.iconst 2, 1) := by decide +kernel
theorem k_Canon_soundOf_34 : decode Y_Canon_soundOf.2.1 34 = .ok (.aload_n 0, 1) := by decide +kernel
theorem k_Canon_soundOf_35 : decode Y_Canon_soundOf.2.1 35 = .ok (.getfield 12, 3) := by decide +kernel
theorem k_Canon_soundOf_38 : decode Y_Canon_soundOf.2.1 38 = .ok (.iconst 0, 1) := by decide +kernel
theorem k_Canon_soundOf_39 : decode Y_Canon_soundOf.2.1 39 = .ok (.invokevirtual 108, 3) := by decide +kernel
theorem k_Canon_soundOf_42 : decode Y_Canon_soundOf.2.1 42 = .ok (.imul, 1) := by decide +kernel
theorem k_Canon_soundOf_43 : decode Y_Canon_soundOf.2.1 43 = .ok (.iload 4, 2) := by decide +kernel
theorem k_Canon_soundOf_45 : decode Y_Canon_soundOf.2.1 45 = .ok (.isub, 1) := by decide +kernel
theorem k_Canon_soundOf_46 : decode Y_Canon_soundOf.2.1 46 = .ok (.goto 5, 3) := by decide +kernel
theorem k_Canon_soundOf_49 : decode Y_Canon_soundOf.2.1 49 = .ok (.iload 4, 2) := by decide +kernel
theorem k_Canon_soundOf_51 : decode Y_Canon_soundOf.2.1 51 = .ok (.istore 5, 2) := by decide +kernel
theorem k_Canon_soundOf_53 : decode Y_Canon_soundOf.2.1 53 = .ok (.iload 5, 2) := by decide +kernel
theorem k_Canon_soundOf_55 : decode Y_Canon_soundOf.2.1 55 = .ok (.aload_n 0, 1) := by decide +kernel
theorem k_Canon_soundOf_56 : decode Y_Canon_soundOf.2.1 56 = .ok (.iload_n 1, 1) := by decide +kernel
theorem k_Canon_soundOf_57 : decode Y_Canon_soundOf.2.1 57 = .ok (.iload_n 2, 1) := by decide +kernel
theorem k_Canon_soundOf_58 : decode Y_Canon_soundOf.2.1 58 = .ok (.invokevirtual 114, 3) := by decide +kernel
theorem k_Canon_soundOf_61 : decode Y_Canon_soundOf.2.1 61 = .ok (.iadd, 1) := by decide +kernel
theorem k_Canon_soundOf_62 : decode Y_Canon_soundOf.2.1 62 = .ok (.ireturn, 1) := by decide +kernel
theorem k_Canon_listen_0 : decode Y_Canon_listen.2.1 0 = .ok (.aload_n 0, 1) := by decide +kernel
theorem k_Canon_listen_1 : decode Y_Canon_listen.2.1 1 = .ok (.getfield 33, 3) := by decide +kernel
theorem k_Canon_listen_4 : decode Y_Canon_listen.2.1 4 = .ok (.invokevirtual 117, 3) := by decide +kernel
theorem k_Canon_listen_7 : decode Y_Canon_listen.2.1 7 = .ok (.aload_n 0, 1) := by decide +kernel
theorem k_Canon_listen_8 : decode Y_Canon_listen.2.1 8 = .ok (.getfield 36, 3) := by decide +kernel
theorem k_Canon_listen_11 : decode Y_Canon_listen.2.1 11 = .ok (.invokevirtual 117, 3) := by decide +kernel
theorem k_Canon_listen_14 : decode Y_Canon_listen.2.1 14 = .ok (.iconst 0, 1) := by decide +kernel
theorem k_Canon_listen_15 : decode Y_Canon_listen.2.1 15 = .ok (.istore_n 2, 1) := by decide +kernel
theorem k_Canon_listen_16 : decode Y_Canon_listen.2.1 16 = .ok (.iload_n 2, 1) := by decide +kernel
theorem k_Canon_listen_17 : decode Y_Canon_listen.2.1 17 = .ok (.aload_n 0, 1) := by decide +kernel
theorem k_Canon_listen_18 : decode Y_Canon_listen.2.1 18 = .ok (.invokevirtual 80, 3) := by decide +kernel
theorem k_Canon_listen_21 : decode Y_Canon_listen.2.1 21 = .ok (.if_icmp .ge 39, 3) := by decide +kernel
theorem k_Canon_listen_24 : decode Y_Canon_listen.2.1 24 = .ok (.aload_n 0, 1) := by decide +kernel
theorem k_Canon_listen_25 : decode Y_Canon_listen.2.1 25 = .ok (.iload_n 2, 1) := by decide +kernel
theorem k_Canon_listen_26 : decode Y_Canon_listen.2.1 26 = .ok (.iload_n 1, 1) := by decide +kernel
theorem k_Canon_listen_27 : decode Y_Canon_listen.2.1 27 = .ok (.invokevirtual 120, 3) := by decide +kernel
theorem k_Canon_listen_30 : decode Y_Canon_listen.2.1 30 = .ok (.istore_n 3, 1) := by decide +kernel
theorem k_Canon_listen_31 : decode Y_Canon_listen.2.1 31 = .ok (.iload_n 3, 1) := by decide +kernel
theorem k_Canon_listen_32 : decode Y_Canon_listen.2.1 32 = .ok (.sipush 999, 3) := by decide +kernel
theorem k_Canon_listen_35 : decode Y_Canon_listen.2.1 35 = .ok (.if_icmp .eq 19, 3) := by decide +kernel
theorem k_Canon_listen_38 : decode Y_Canon_listen.2.1 38 = .ok (.aload_n 0, 1) := by decide +kernel
theorem k_Canon_listen_39 : decode Y_Canon_listen.2.1 39 = .ok (.getfield 33, 3) := by decide +kernel
theorem k_Canon_listen_42 : decode Y_Canon_listen.2.1 42 = .ok (.iload_n 2, 1) := by decide +kernel
theorem k_Canon_listen_43 : decode Y_Canon_listen.2.1 43 = .ok (.invokevirtual 72, 3) := by decide +kernel
theorem k_Canon_listen_46 : decode Y_Canon_listen.2.1 46 = .ok (.aload_n 0, 1) := by decide +kernel
theorem k_Canon_listen_47 : decode Y_Canon_listen.2.1 47 = .ok (.getfield 36, 3) := by decide +kernel
theorem k_Canon_listen_50 : decode Y_Canon_listen.2.1 50 = .ok (.iload_n 3, 1) := by decide +kernel
theorem k_Canon_listen_51 : decode Y_Canon_listen.2.1 51 = .ok (.invokevirtual 72, 3) := by decide +kernel
theorem k_Canon_listen_54 : decode Y_Canon_listen.2.1 54 = .ok (.iinc 2 1, 3) := by decide +kernel
theorem k_Canon_listen_57 : decode Y_Canon_listen.2.1 57 = .ok (.goto (-41), 3) := by decide +kernel
theorem k_Canon_listen_60 : decode Y_Canon_listen.2.1 60 = .ok (.return_, 1) := by decide +kernel
theorem k_Canon_clash_0 : decode Y_Canon_clash.2.1 0 = .ok (.aload_n 0, 1) := by decide +kernel
theorem k_Canon_clash_1 : decode Y_Canon_clash.2.1 1 = .ok (.getfield 46, 3) := by decide +kernel
theorem k_Canon_clash_4 : decode Y_Canon_clash.2.1 4 = .ok (.aload_n 0, 1) := by decide +kernel
theorem k_Canon_clash_5 : decode Y_Canon_clash.2.1 5 = .ok (.getfield 36, 3) := by decide +kernel
theorem k_Canon_clash_8 : decode Y_Canon_clash.2.1 8 = .ok (.iload_n 1, 1) := by decide +kernel
theorem k_Canon_clash_9 : decode Y_Canon_clash.2.1 9 = .ok (.invokevirtual 64, 3) := by decide +kernel
theorem k_Canon_clash_12 : decode Y_Canon_clash.2.1 12 = .ok (.aload_n 0, 1) := by decide +kernel
theorem k_Canon_clash_13 : decode Y_Canon_clash.2.1 13 = .ok (.getfield 36, 3) := by decide +kernel
theorem k_Canon_clash_16 : decode Y_Canon_clash.2.1 16 = .ok (.iload_n 2, 1) := by decide +kernel
theorem k_Canon_clash_17 : decode Y_Canon_clash.2.1 17 = .ok (.invokevirtual 64, 3) := by decide +kernel
theorem k_Canon_clash_20 : decode Y_Canon_clash.2.1 20 = .ok (.isub, 1) := by decide +kernel
theorem k_Canon_clash_21 : decode Y_Canon_clash.2.1 21 = .ok (.invokestatic 123, 3) := by decide +kernel
theorem k_Canon_clash_24 : decode Y_Canon_clash.2.1 24 = .ok (.ifCond .ne 7, 3) := by decide +kernel
theorem k_Canon_clash_27 : decode Y_Canon_clash.2.1 27 = .ok (.iconst 1, 1) := by decide +kernel
theorem k_Canon_clash_28 : decode Y_Canon_clash.2.1 28 = .ok (.goto 4, 3) := by decide +kernel
theorem k_Canon_clash_31 : decode Y_Canon_clash.2.1 31 = .ok (.iconst 0, 1) := by decide +kernel
theorem k_Canon_clash_32 : decode Y_Canon_clash.2.1 32 = .ok (.ireturn, 1) := by decide +kernel
theorem k_Canon_illsAt_0 : decode Y_Canon_illsAt.2.1 0 = .ok (.aload_n 0, 1) := by decide +kernel
theorem k_Canon_illsAt_1 : decode Y_Canon_illsAt.2.1 1 = .ok (.iload_n 1, 1) := by decide +kernel
theorem k_Canon_illsAt_2 : decode Y_Canon_illsAt.2.1 2 = .ok (.invokevirtual 127, 3) := by decide +kernel
theorem k_Canon_illsAt_5 : decode Y_Canon_illsAt.2.1 5 = .ok (.iconst 0, 1) := by decide +kernel
theorem k_Canon_illsAt_6 : decode Y_Canon_illsAt.2.1 6 = .ok (.istore_n 2, 1) := by decide +kernel
theorem k_Canon_illsAt_7 : decode Y_Canon_illsAt.2.1 7 = .ok (.iconst 0, 1) := by decide +kernel
theorem k_Canon_illsAt_8 : decode Y_Canon_illsAt.2.1 8 = .ok (.istore_n 3, 1) := by decide +kernel
theorem k_Canon_illsAt_9 : decode Y_Canon_illsAt.2.1 9 = .ok (.iload_n 3, 1) := by decide +kernel
theorem k_Canon_illsAt_10 : decode Y_Canon_illsAt.2.1 10 = .ok (.aload_n 0, 1) := by decide +kernel
theorem k_Canon_illsAt_11 : decode Y_Canon_illsAt.2.1 11 = .ok (.getfield 33, 3) := by decide +kernel
theorem k_Canon_illsAt_14 : decode Y_Canon_illsAt.2.1 14 = .ok (.invokevirtual 56, 3) := by decide +kernel
theorem k_Canon_illsAt_17 : decode Y_Canon_illsAt.2.1 17 = .ok (.if_icmp .ge 45, 3) := by decide +kernel
theorem k_Canon_illsAt_20 : decode Y_Canon_illsAt.2.1 20 = .ok (.iload_n 3, 1) := by decide +kernel
theorem k_Canon_illsAt_21 : decode Y_Canon_illsAt.2.1 21 = .ok (.iconst 1, 1) := by decide +kernel
theorem k_Canon_illsAt_22 : decode Y_Canon_illsAt.2.1 22 = .ok (.iadd, 1) := by decide +kernel
theorem k_Canon_illsAt_23 : decode Y_Canon_illsAt.2.1 23 = .ok (.istore 4, 2) := by decide +kernel
theorem k_Canon_illsAt_25 : decode Y_Canon_illsAt.2.1 25 = .ok (.iload 4, 2) := by decide +kernel
theorem k_Canon_illsAt_27 : decode Y_Canon_illsAt.2.1 27 = .ok (.aload_n 0, 1) := by decide +kernel
theorem k_Canon_illsAt_28 : decode Y_Canon_illsAt.2.1 28 = .ok (.getfield 33, 3) := by decide +kernel
theorem k_Canon_illsAt_31 : decode Y_Canon_illsAt.2.1 31 = .ok (.invokevirtual 56, 3) := by decide +kernel
theorem k_Canon_illsAt_34 : decode Y_Canon_illsAt.2.1 34 = .ok (.if_icmp .ge 22, 3) := by decide +kernel
theorem k_Canon_illsAt_37 : decode Y_Canon_illsAt.2.1 37 = .ok (.aload_n 0, 1) := by decide +kernel
theorem k_Canon_illsAt_38 : decode Y_Canon_illsAt.2.1 38 = .ok (.iload_n 3, 1) := by decide +kernel
theorem k_Canon_illsAt_39 : decode Y_Canon_illsAt.2.1 39 = .ok (.iload 4, 2) := by decide +kernel
theorem k_Canon_illsAt_41 : decode Y_Canon_illsAt.2.1 41 = .ok (.invokevirtual 130, 3) := by decide +kernel
theorem k_Canon_illsAt_44 : decode Y_Canon_illsAt.2.1 44 = .ok (.ifCond .eq 6, 3) := by decide +kernel
theorem k_Canon_illsAt_47 : decode Y_Canon_illsAt.2.1 47 = .ok (.iinc 2 1, 3) := by decide +kernel
theorem k_Canon_illsAt_50 : decode Y_Canon_illsAt.2.1 50 = .ok (.iinc 4 1, 3) := by decide +kernel
theorem k_Canon_illsAt_53 : decode Y_Canon_illsAt.2.1 53 = .ok (.goto (-28), 3) := by decide +kernel
theorem k_Canon_illsAt_56 : decode Y_Canon_illsAt.2.1 56 = .ok (.iinc 3 1, 3) := by decide +kernel
theorem k_Canon_illsAt_59 : decode Y_Canon_illsAt.2.1 59 = .ok (.goto (-50), 3) := by decide +kernel
theorem k_Canon_illsAt_62 : decode Y_Canon_illsAt.2.1 62 = .ok (.iload_n 2, 1) := by decide +kernel
theorem k_Canon_illsAt_63 : decode Y_Canon_illsAt.2.1 63 = .ok (.ireturn, 1) := by decide +kernel
theorem k_Canon_illsInAll_0 : decode Y_Canon_illsInAll.2.1 0 = .ok (.iconst 0, 1) := by decide +kernel
theorem k_Canon_illsInAll_1 : decode Y_Canon_illsInAll.2.1 1 = .ok (.istore_n 1, 1) := by decide +kernel
theorem k_Canon_illsInAll_2 : decode Y_Canon_illsInAll.2.1 2 = .ok (.aload_n 0, 1) := by decide +kernel
theorem k_Canon_illsInAll_3 : decode Y_Canon_illsInAll.2.1 3 = .ok (.invokevirtual 133, 3) := by decide +kernel
theorem k_Canon_illsInAll_6 : decode Y_Canon_illsInAll.2.1 6 = .ok (.istore_n 2, 1) := by decide +kernel
theorem k_Canon_illsInAll_7 : decode Y_Canon_illsInAll.2.1 7 = .ok (.iconst 0, 1) := by decide +kernel
theorem k_Canon_illsInAll_8 : decode Y_Canon_illsInAll.2.1 8 = .ok (.istore_n 3, 1) := by decide +kernel
theorem k_Canon_illsInAll_9 : decode Y_Canon_illsInAll.2.1 9 = .ok (.iload_n 3, 1) := by decide +kernel
theorem k_Canon_illsInAll_10 : decode Y_Canon_illsInAll.2.1 10 = .ok (.iload_n 2, 1) := by decide +kernel
theorem k_Canon_illsInAll_11 : decode Y_Canon_illsInAll.2.1 11 = .ok (.if_icmp .ge 17, 3) := by decide +kernel
theorem k_Canon_illsInAll_14 : decode Y_Canon_illsInAll.2.1 14 = .ok (.iload_n 1, 1) := by decide +kernel
theorem k_Canon_illsInAll_15 : decode Y_Canon_illsInAll.2.1 15 = .ok (.aload_n 0, 1) := by decide +kernel
theorem k_Canon_illsInAll_16 : decode Y_Canon_illsInAll.2.1 16 = .ok (.iload_n 3, 1) := by decide +kernel
theorem k_Canon_illsInAll_17 : decode Y_Canon_illsInAll.2.1 17 = .ok (.invokevirtual 136, 3) := by decide +kernel
theorem k_Canon_illsInAll_20 : decode Y_Canon_illsInAll.2.1 20 = .ok (.iadd, 1) := by decide +kernel
theorem k_Canon_illsInAll_21 : decode Y_Canon_illsInAll.2.1 21 = .ok (.istore_n 1, 1) := by decide +kernel
theorem k_Canon_illsInAll_22 : decode Y_Canon_illsInAll.2.1 22 = .ok (.iinc 3 1, 3) := by decide +kernel
theorem k_Canon_illsInAll_25 : decode Y_Canon_illsInAll.2.1 25 = .ok (.goto (-16), 3) := by decide +kernel
theorem k_Canon_illsInAll_28 : decode Y_Canon_illsInAll.2.1 28 = .ok (.iload_n 1, 1) := by decide +kernel
theorem k_Canon_illsInAll_29 : decode Y_Canon_illsInAll.2.1 29 = .ok (.ireturn, 1) := by decide +kernel
theorem k_Canon_firstIllBeat_0 : decode Y_Canon_firstIllBeat.2.1 0 = .ok (.aload_n 0, 1) := by decide +kernel
theorem k_Canon_firstIllBeat_1 : decode Y_Canon_firstIllBeat.2.1 1 = .ok (.invokevirtual 133, 3) := by decide +kernel
theorem k_Canon_firstIllBeat_4 : decode Y_Canon_firstIllBeat.2.1 4 = .ok (.istore_n 1, 1) := by decide +kernel
theorem k_Canon_firstIllBeat_5 : decode Y_Canon_firstIllBeat.2.1 5 = .ok (.iconst 0, 1) := by decide +kernel
theorem k_Canon_firstIllBeat_6 : decode Y_Canon_firstIllBeat.2.1 6 = .ok (.istore_n 2, 1) := by decide +kernel
theorem k_Canon_firstIllBeat_7 : decode Y_Canon_firstIllBeat.2.1 7 = .ok (.iload_n 2, 1) := by decide +kernel
theorem k_Canon_firstIllBeat_8 : decode Y_Canon_firstIllBeat.2.1 8 = .ok (.iload_n 1, 1) := by decide +kernel
theorem k_Canon_firstIllBeat_9 : decode Y_Canon_firstIllBeat.2.1 9 = .ok (.if_icmp .ge 19, 3) := by decide +kernel
theorem k_Canon_firstIllBeat_12 : decode Y_Canon_firstIllBeat.2.1 12 = .ok (.aload_n 0, 1) := by decide +kernel
theorem k_Canon_firstIllBeat_13 : decode Y_Canon_firstIllBeat.2.1 13 = .ok (.iload_n 2, 1) := by decide +kernel
theorem k_Canon_firstIllBeat_14 : decode Y_Canon_firstIllBeat.2.1 14 = .ok (.invokevirtual 136, 3) := by decide +kernel
theorem k_Canon_firstIllBeat_17 : decode Y_Canon_firstIllBeat.2.1 17 = .ok (.ifCond .le 5, 3) := by decide +kernel
theorem k_Canon_firstIllBeat_20 : decode Y_Canon_firstIllBeat.2.1 20 = .ok (.iload_n 2, 1) := by decide +kernel
theorem k_Canon_firstIllBeat_21 : decode Y_Canon_firstIllBeat.2.1 21 = .ok (.ireturn, 1) := by decide +kernel
theorem k_Canon_firstIllBeat_22 : decode Y_Canon_firstIllBeat.2.1 22 = .ok (.iinc 2 1, 3) := by decide +kernel
theorem k_Canon_firstIllBeat_25 : decode Y_Canon_firstIllBeat.2.1 25 = .ok (.goto (-18), 3) := by decide +kernel
theorem k_Canon_firstIllBeat_28 : decode Y_Canon_firstIllBeat.2.1 28 = .ok (.bipush (-9), 2) := by decide +kernel
theorem k_Canon_firstIllBeat_30 : decode Y_Canon_firstIllBeat.2.1 30 = .ok (.ireturn, 1) := by decide +kernel
theorem k_Canon_firstIllPair_0 : decode Y_Canon_firstIllPair.2.1 0 = .ok (.aload_n 0, 1) := by decide +kernel
theorem k_Canon_firstIllPair_1 : decode Y_Canon_firstIllPair.2.1 1 = .ok (.iload_n 1, 1) := by decide +kernel
theorem k_Canon_firstIllPair_2 : decode Y_Canon_firstIllPair.2.1 2 = .ok (.invokevirtual 127, 3) := by decide +kernel
theorem k_Canon_firstIllPair_5 : decode Y_Canon_firstIllPair.2.1 5 = .ok (.iconst 0, 1) := by decide +kernel
theorem k_Canon_firstIllPair_6 : decode Y_Canon_firstIllPair.2.1 6 = .ok (.istore_n 2, 1) := by decide +kernel
theorem k_Canon_firstIllPair_7 : decode Y_Canon_firstIllPair.2.1 7 = .ok (.iload_n 2, 1) := by decide +kernel
theorem k_Canon_firstIllPair_8 : decode Y_Canon_firstIllPair.2.1 8 = .ok (.aload_n 0, 1) := by decide +kernel
theorem k_Canon_firstIllPair_9 : decode Y_Canon_firstIllPair.2.1 9 = .ok (.getfield 33, 3) := by decide +kernel
theorem k_Canon_firstIllPair_12 : decode Y_Canon_firstIllPair.2.1 12 = .ok (.invokevirtual 56, 3) := by decide +kernel
theorem k_Canon_firstIllPair_15 : decode Y_Canon_firstIllPair.2.1 15 = .ok (.if_icmp .ge 60, 3) := by decide +kernel
theorem k_Canon_firstIllPair_18 : decode Y_Canon_firstIllPair.2.1 18 = .ok (.iload_n 2, 1) := by decide +kernel
theorem k_Canon_firstIllPair_19 : decode Y_Canon_firstIllPair.2.1 19 = .ok (.iconst 1, 1) := by decide +kernel
theorem k_Canon_firstIllPair_20 : decode Y_Canon_firstIllPair.2.1 20 = .ok (.iadd, 1) := by decide +kernel
theorem k_Canon_firstIllPair_21 : decode Y_Canon_firstIllPair.2.1 21 = .ok (.istore_n 3, 1) := by decide +kernel
theorem k_Canon_firstIllPair_22 : decode Y_Canon_firstIllPair.2.1 22 = .ok (.iload_n 3, 1) := by decide +kernel
theorem k_Canon_firstIllPair_23 : decode Y_Canon_firstIllPair.2.1 23 = .ok (.aload_n 0, 1) := by decide +kernel
theorem k_Canon_firstIllPair_24 : decode Y_Canon_firstIllPair.2.1 24 = .ok (.getfield 33, 3) := by decide +kernel
theorem k_Canon_firstIllPair_27 : decode Y_Canon_firstIllPair.2.1 27 = .ok (.invokevirtual 56, 3) := by decide +kernel
theorem k_Canon_firstIllPair_30 : decode Y_Canon_firstIllPair.2.1 30 = .ok (.if_icmp .ge 39, 3) := by decide +kernel
theorem k_Canon_firstIllPair_33 : decode Y_Canon_firstIllPair.2.1 33 = .ok (.aload_n 0, 1) := by decide +kernel
theorem k_Canon_firstIllPair_34 : decode Y_Canon_firstIllPair.2.1 34 = .ok (.iload_n 2, 1) := by decide +kernel
theorem k_Canon_firstIllPair_35 : decode Y_Canon_firstIllPair.2.1 35 = .ok (.iload_n 3, 1) := by decide +kernel
theorem k_Canon_firstIllPair_36 : decode Y_Canon_firstIllPair.2.1 36 = .ok (.invokevirtual 130, 3) := by decide +kernel
theorem k_Canon_firstIllPair_39 : decode Y_Canon_firstIllPair.2.1 39 = .ok (.ifCond .eq 24, 3) := by decide +kernel
theorem k_Canon_firstIllPair_42 : decode Y_Canon_firstIllPair.2.1 42 = .ok (.bipush 10, 2) := by decide +kernel
theorem k_Canon_firstIllPair_44 : decode Y_Canon_firstIllPair.2.1 44 = .ok (.aload_n 0, 1) := by decide +kernel
theorem k_Canon_firstIllPair_45 : decode Y_Canon_firstIllPair.2.1 45 = .ok (.getfield 33, 3) := by decide +kernel
theorem k_Canon_firstIllPair_48 : decode Y_Canon_firstIllPair.2.1 48 = .ok (.iload_n 2, 1) := by decide +kernel
theorem k_Canon_firstIllPair_49 : decode Y_Canon_firstIllPair.2.1 49 = .ok (.invokevirtual 64, 3) := by decide +kernel
theorem k_Canon_firstIllPair_52 : decode Y_Canon_firstIllPair.2.1 52 = .ok (.imul, 1) := by decide +kernel
theorem k_Canon_firstIllPair_53 : decode Y_Canon_firstIllPair.2.1 53 = .ok (.aload_n 0, 1) := by decide +kernel
theorem k_Canon_firstIllPair_54 : decode Y_Canon_firstIllPair.2.1 54 = .ok (.getfield 33, 3) := by decide +kernel
theorem k_Canon_firstIllPair_57 : decode Y_Canon_firstIllPair.2.1 57 = .ok (.iload_n 3, 1) := by decide +kernel
theorem k_Canon_firstIllPair_58 : decode Y_Canon_firstIllPair.2.1 58 = .ok (.invokevirtual 64, 3) := by decide +kernel
theorem k_Canon_firstIllPair_61 : decode Y_Canon_firstIllPair.2.1 61 = .ok (.iadd, 1) := by decide +kernel
theorem k_Canon_firstIllPair_62 : decode Y_Canon_firstIllPair.2.1 62 = .ok (.ireturn, 1) := by decide +kernel
theorem k_Canon_firstIllPair_63 : decode Y_Canon_firstIllPair.2.1 63 = .ok (.iinc 3 1, 3) := by decide +kernel
theorem k_Canon_firstIllPair_66 : decode Y_Canon_firstIllPair.2.1 66 = .ok (.goto (-44), 3) := by decide +kernel
theorem k_Canon_firstIllPair_69 : decode Y_Canon_firstIllPair.2.1 69 = .ok (.iinc 2 1, 3) := by decide +kernel
theorem k_Canon_firstIllPair_72 : decode Y_Canon_firstIllPair.2.1 72 = .ok (.goto (-65), 3) := by decide +kernel
theorem k_Canon_firstIllPair_75 : decode Y_Canon_firstIllPair.2.1 75 = .ok (.bipush (-9), 2) := by decide +kernel
theorem k_Canon_firstIllPair_77 : decode Y_Canon_firstIllPair.2.1 77 = .ok (.ireturn, 1) := by decide +kernel
theorem k_Canon_voicesInAllIlls_0 : decode Y_Canon_voicesInAllIlls.2.1 0 = .ok (.iconst 1, 1) := by decide +kernel
theorem k_Canon_voicesInAllIlls_1 : decode Y_Canon_voicesInAllIlls.2.1 1 = .ok (.aload_n 0, 1) := by decide +kernel
theorem k_Canon_voicesInAllIlls_2 : decode Y_Canon_voicesInAllIlls.2.1 2 = .ok (.invokevirtual 80, 3) := by decide +kernel
theorem k_Canon_voicesInAllIlls_5 : decode Y_Canon_voicesInAllIlls.2.1 5 = .ok (.ishl, 1) := by decide +kernel
theorem k_Canon_voicesInAllIlls_6 : decode Y_Canon_voicesInAllIlls.2.1 6 = .ok (.iconst 1, 1) := by decide +kernel
theorem k_Canon_voicesInAllIlls_7 : decode Y_Canon_voicesInAllIlls.2.1 7 = .ok (.isub, 1) := by decide +kernel
theorem k_Canon_voicesInAllIlls_8 : decode Y_Canon_voicesInAllIlls.2.1 8 = .ok (.istore_n 1, 1) := by decide +kernel
theorem k_Canon_voicesInAllIlls_9 : decode Y_Canon_voicesInAllIlls.2.1 9 = .ok (.aload_n 0, 1) := by decide +kernel
theorem k_Canon_voicesInAllIlls_10 : decode Y_Canon_voicesInAllIlls.2.1 10 = .ok (.invokevirtual 133, 3) := by decide +kernel
theorem k_Canon_voicesInAllIlls_13 : decode Y_Canon_voicesInAllIlls.2.1 13 = .ok (.istore_n 2, 1) := by decide +kernel
theorem k_Canon_voicesInAllIlls_14 : decode Y_Canon_voicesInAllIlls.2.1 14 = .ok (.iconst 0, 1) := by decide +kernel
theorem k_Canon_voicesInAllIlls_15 : decode Y_Canon_voicesInAllIlls.2.1 15 = .ok (.istore_n 3, 1) := by decide +kernel
theorem k_Canon_voicesInAllIlls_16 : decode Y_Canon_voicesInAllIlls.2.1 16 = .ok (.iload_n 3, 1) := by decide +kernel
theorem k_Canon_voicesInAllIlls_17 : decode Y_Canon_voicesInAllIlls.2.1 17 = .ok (.iload_n 2, 1) := by decide +kernel
theorem k_Canon_voicesInAllIlls_18 : decode Y_Canon_voicesInAllIlls.2.1 18 = .ok (.if_icmp .ge 96, 3) := by decide +kernel
theorem k_Canon_voicesInAllIlls_21 : decode Y_Canon_voicesInAllIlls.2.1 21 = .ok (.aload_n 0, 1) := by decide +kernel
theorem k_Canon_voicesInAllIlls_22 : decode Y_Canon_voicesInAllIlls.2.1 22 = .ok (.iload_n 3, 1) := by decide +kernel
theorem k_Canon_voicesInAllIlls_23 : decode Y_Canon_voicesInAllIlls.2.1 23 = .ok (.invokevirtual 127, 3) := by decide +kernel
theorem k_Canon_voicesInAllIlls_26 : decode Y_Canon_voicesInAllIlls.2.1 26 = .ok (.iconst 0, 1) := by decide +kernel
theorem k_Canon_voicesInAllIlls_27 : decode Y_Canon_voicesInAllIlls.2.1 27 = .ok (.istore 4, 2) := by decide +kernel
theorem k_Canon_voicesInAllIlls_29 : decode Y_Canon_voicesInAllIlls.2.1 29 = .ok (.iload 4, 2) := by decide +kernel
theorem k_Canon_voicesInAllIlls_31 : decode Y_Canon_voicesInAllIlls.2.1 31 = .ok (.aload_n 0, 1) := by decide +kernel
theorem k_Canon_voicesInAllIlls_32 : decode Y_Canon_voicesInAllIlls.2.1 32 = .ok (.getfield 33, 3) := by decide +kernel
theorem k_Canon_voicesInAllIlls_35 : decode Y_Canon_voicesInAllIlls.2.1 35 = .ok (.invokevirtual 56, 3) := by decide +kernel
theorem k_Canon_voicesInAllIlls_38 : decode Y_Canon_voicesInAllIlls.2.1 38 = .ok (.if_icmp .ge 70, 3) := by decide +kernel
theorem k_Canon_voicesInAllIlls_41 : decode Y_Canon_voicesInAllIlls.2.1 41 = .ok (.iload 4, 2) := by decide +kernel
theorem k_Canon_voicesInAllIlls_43 : decode Y_Canon_voicesInAllIlls.2.1 43 = .ok (.iconst 1, 1) := by decide +kernel
theorem k_Canon_voicesInAllIlls_44 : decode Y_Canon_voicesInAllIlls.2.1 44 = .ok (.iadd, 1) := by decide +kernel
theorem k_Canon_voicesInAllIlls_45 : decode Y_Canon_voicesInAllIlls.2.1 45 = .ok (.istore 5, 2) := by decide +kernel
theorem k_Canon_voicesInAllIlls_47 : decode Y_Canon_voicesInAllIlls.2.1 47 = .ok (.iload 5, 2) := by decide +kernel
theorem k_Canon_voicesInAllIlls_49 : decode Y_Canon_voicesInAllIlls.2.1 49 = .ok (.aload_n 0, 1) := by decide +kernel
theorem k_Canon_voicesInAllIlls_50 : decode Y_Canon_voicesInAllIlls.2.1 50 = .ok (.getfield 33, 3) := by decide +kernel
theorem k_Canon_voicesInAllIlls_53 : decode Y_Canon_voicesInAllIlls.2.1 53 = .ok (.invokevirtual 56, 3) := by decide +kernel
theorem k_Canon_voicesInAllIlls_56 : decode Y_Canon_voicesInAllIlls.2.1 56 = .ok (.if_icmp .ge 46, 3) := by decide +kernel
theorem k_Canon_voicesInAllIlls_59 : decode Y_Canon_voicesInAllIlls.2.1 59 = .ok (.aload_n 0, 1) := by decide +kernel
theorem k_Canon_voicesInAllIlls_60 : decode Y_Canon_voicesInAllIlls.2.1 60 = .ok (.iload 4, 2) := by decide +kernel
theorem k_Canon_voicesInAllIlls_62 : decode Y_Canon_voicesInAllIlls.2.1 62 = .ok (.iload 5, 2) := by decide +kernel
theorem k_Canon_voicesInAllIlls_64 : decode Y_Canon_voicesInAllIlls.2.1 64 = .ok (.invokevirtual 130, 3) := by decide +kernel
theorem k_Canon_voicesInAllIlls_67 : decode Y_Canon_voicesInAllIlls.2.1 67 = .ok (.ifCond .eq 29, 3) := by decide +kernel
theorem k_Canon_voicesInAllIlls_70 : decode Y_Canon_voicesInAllIlls.2.1 70 = .ok (.iload_n 1, 1) := by decide +kernel
theorem k_Canon_voicesInAllIlls_71 : decode Y_Canon_voicesInAllIlls.2.1 71 = .ok (.iconst 1, 1) := by decide +kernel
theorem k_Canon_voicesInAllIlls_72 : decode Y_Canon_voicesInAllIlls.2.1 72 = .ok (.aload_n 0, 1) := by decide +kernel
theorem k_Canon_voicesInAllIlls_73 : decode Y_Canon_voicesInAllIlls.2.1 73 = .ok (.getfield 33, 3) := by decide +kernel
theorem k_Canon_voicesInAllIlls_76 : decode Y_Canon_voicesInAllIlls.2.1 76 = .ok (.iload 4, 2) := by decide +kernel
theorem k_Canon_voicesInAllIlls_78 : decode Y_Canon_voicesInAllIlls.2.1 78 = .ok (.invokevirtual 64, 3) := by decide +kernel
theorem k_Canon_voicesInAllIlls_81 : decode Y_Canon_voicesInAllIlls.2.1 81 = .ok (.ishl, 1) := by decide +kernel
theorem k_Canon_voicesInAllIlls_82 : decode Y_Canon_voicesInAllIlls.2.1 82 = .ok (.iconst 1, 1) := by decide +kernel
theorem k_Canon_voicesInAllIlls_83 : decode Y_Canon_voicesInAllIlls.2.1 83 = .ok (.aload_n 0, 1) := by decide +kernel
theorem k_Canon_voicesInAllIlls_84 : decode Y_Canon_voicesInAllIlls.2.1 84 = .ok (.getfield 33, 3) := by decide +kernel
theorem k_Canon_voicesInAllIlls_87 : decode Y_Canon_voicesInAllIlls.2.1 87 = .ok (.iload 5, 2) := by decide +kernel
theorem k_Canon_voicesInAllIlls_89 : decode Y_Canon_voicesInAllIlls.2.1 89 = .ok (.invokevirtual 64, 3) := by decide +kernel
theorem k_Canon_voicesInAllIlls_92 : decode Y_Canon_voicesInAllIlls.2.1 92 = .ok (.ishl, 1) := by decide +kernel
theorem k_Canon_voicesInAllIlls_93 : decode Y_Canon_voicesInAllIlls.2.1 93 = .ok (.ior, 1) := by decide +kernel
theorem k_Canon_voicesInAllIlls_94 : decode Y_Canon_voicesInAllIlls.2.1 94 = .ok (.iand, 1) := by decide +kernel
theorem k_Canon_voicesInAllIlls_95 : decode Y_Canon_voicesInAllIlls.2.1 95 = .ok (.istore_n 1, 1) := by decide +kernel
theorem k_Canon_voicesInAllIlls_96 : decode Y_Canon_voicesInAllIlls.2.1 96 = .ok (.iinc 5 1, 3) := by decide +kernel
theorem k_Canon_voicesInAllIlls_99 : decode Y_Canon_voicesInAllIlls.2.1 99 = .ok (.goto (-52), 3) := by decide +kernel
theorem k_Canon_voicesInAllIlls_102 : decode Y_Canon_voicesInAllIlls.2.1 102 = .ok (.iinc 4 1, 3) := by decide +kernel
theorem k_Canon_voicesInAllIlls_105 : decode Y_Canon_voicesInAllIlls.2.1 105 = .ok (.goto (-76), 3) := by decide +kernel
theorem k_Canon_voicesInAllIlls_108 : decode Y_Canon_voicesInAllIlls.2.1 108 = .ok (.iinc 3 1, 3) := by decide +kernel
theorem k_Canon_voicesInAllIlls_111 : decode Y_Canon_voicesInAllIlls.2.1 111 = .ok (.goto (-95), 3) := by decide +kernel
theorem k_Canon_voicesInAllIlls_114 : decode Y_Canon_voicesInAllIlls.2.1 114 = .ok (.iload_n 1, 1) := by decide +kernel
theorem k_Canon_voicesInAllIlls_115 : decode Y_Canon_voicesInAllIlls.2.1 115 = .ok (.ireturn, 1) := by decide +kernel
theorem k_Canon_lastAgreesWithAll_0 : decode Y_Canon_lastAgreesWithAll.2.1 0 = .ok (.aload_n 0, 1) := by decide +kernel
theorem k_Canon_lastAgreesWithAll_1 : decode Y_Canon_lastAgreesWithAll.2.1 1 = .ok (.invokevirtual 80, 3) := by decide +kernel
theorem k_Canon_lastAgreesWithAll_4 : decode Y_Canon_lastAgreesWithAll.2.1 4 = .ok (.iconst 1, 1) := by decide +kernel
theorem k_Canon_lastAgreesWithAll_5 : decode Y_Canon_lastAgreesWithAll.2.1 5 = .ok (.isub, 1) := by decide +kernel
theorem k_Canon_lastAgreesWithAll_6 : decode Y_Canon_lastAgreesWithAll.2.1 6 = .ok (.istore_n 1, 1) := by decide +kernel
theorem k_Canon_lastAgreesWithAll_7 : decode Y_Canon_lastAgreesWithAll.2.1 7 = .ok (.aload_n 0, 1) := by decide +kernel
theorem k_Canon_lastAgreesWithAll_8 : decode Y_Canon_lastAgreesWithAll.2.1 8 = .ok (.iload_n 1, 1) := by decide +kernel
theorem k_Canon_lastAgreesWithAll_9 : decode Y_Canon_lastAgreesWithAll.2.1 9 = .ok (.invokevirtual 93, 3) := by decide +kernel
theorem k_Canon_lastAgreesWithAll_12 : decode Y_Canon_lastAgreesWithAll.2.1 12 = .ok (.istore_n 2, 1) := by decide +kernel
theorem k_Canon_lastAgreesWithAll_13 : decode Y_Canon_lastAgreesWithAll.2.1 13 = .ok (.aload_n 0, 1) := by decide +kernel
theorem k_Canon_lastAgreesWithAll_14 : decode Y_Canon_lastAgreesWithAll.2.1 14 = .ok (.getfield 27, 3) := by decide +kernel
theorem k_Canon_lastAgreesWithAll_17 : decode Y_Canon_lastAgreesWithAll.2.1 17 = .ok (.iload_n 1, 1) := by decide +kernel
theorem k_Canon_lastAgreesWithAll_18 : decode Y_Canon_lastAgreesWithAll.2.1 18 = .ok (.invokevirtual 64, 3) := by decide +kernel
theorem k_Canon_lastAgreesWithAll_21 : decode Y_Canon_lastAgreesWithAll.2.1 21 = .ok (.istore_n 3, 1) := by decide +kernel
theorem k_Canon_lastAgreesWithAll_22 : decode Y_Canon_lastAgreesWithAll.2.1 22 = .ok (.iload_n 3, 1) := by decide +kernel
theorem k_Canon_lastAgreesWithAll_23 : decode Y_Canon_lastAgreesWithAll.2.1 23 = .ok (.iload_n 2, 1) := by decide +kernel
theorem k_Canon_lastAgreesWithAll_24 : decode Y_Canon_lastAgreesWithAll.2.1 24 = .ok (.if_icmp .ge 54, 3) := by decide +kernel
theorem k_Canon_lastAgreesWithAll_27 : decode Y_Canon_lastAgreesWithAll.2.1 27 = .ok (.aload_n 0, 1) := by decide +kernel
theorem k_Canon_lastAgreesWithAll_28 : decode Y_Canon_lastAgreesWithAll.2.1 28 = .ok (.iload_n 3, 1) := by decide +kernel
theorem k_Canon_lastAgreesWithAll_29 : decode Y_Canon_lastAgreesWithAll.2.1 29 = .ok (.invokevirtual 127, 3) := by decide +kernel
theorem k_Canon_lastAgreesWithAll_32 : decode Y_Canon_lastAgreesWithAll.2.1 32 = .ok (.aload_n 0, 1) := by decide +kernel
theorem k_Canon_lastAgreesWithAll_33 : decode Y_Canon_lastAgreesWithAll.2.1 33 = .ok (.getfield 33, 3) := by decide +kernel
theorem k_Canon_lastAgreesWithAll_36 : decode Y_Canon_lastAgreesWithAll.2.1 36 = .ok (.invokevirtual 56, 3) := by decide +kernel
theorem k_Canon_lastAgreesWithAll_39 : decode Y_Canon_lastAgreesWithAll.2.1 39 = .ok (.iconst 1, 1) := by decide +kernel
theorem k_Canon_lastAgreesWithAll_40 : decode Y_Canon_lastAgreesWithAll.2.1 40 = .ok (.isub, 1) := by decide +kernel
theorem k_Canon_lastAgreesWithAll_41 : decode Y_Canon_lastAgreesWithAll.2.1 41 = .ok (.istore 4, 2) := by decide +kernel
theorem k_Canon_lastAgreesWithAll_43 : decode Y_Canon_lastAgreesWithAll.2.1 43 = .ok (.iconst 0, 1) := by decide +kernel
theorem k_Canon_lastAgreesWithAll_44 : decode Y_Canon_lastAgreesWithAll.2.1 44 = .ok (.istore 5, 2) := by decide +kernel
theorem k_Canon_lastAgreesWithAll_46 : decode Y_Canon_lastAgreesWithAll.2.1 46 = .ok (.iload 5, 2) := by decide +kernel
theorem k_Canon_lastAgreesWithAll_48 : decode Y_Canon_lastAgreesWithAll.2.1 48 = .ok (.iload 4, 2) := by decide +kernel
theorem k_Canon_lastAgreesWithAll_50 : decode Y_Canon_lastAgreesWithAll.2.1 50 = .ok (.if_icmp .ge 22, 3) := by decide +kernel
theorem k_Canon_lastAgreesWithAll_53 : decode Y_Canon_lastAgreesWithAll.2.1 53 = .ok (.aload_n 0, 1) := by decide +kernel
theorem k_Canon_lastAgreesWithAll_54 : decode Y_Canon_lastAgreesWithAll.2.1 54 = .ok (.iload 4, 2) := by decide +kernel
theorem k_Canon_lastAgreesWithAll_56 : decode Y_Canon_lastAgreesWithAll.2.1 56 = .ok (.iload 5, 2) := by decide +kernel
theorem k_Canon_lastAgreesWithAll_58 : decode Y_Canon_lastAgreesWithAll.2.1 58 = .ok (.invokevirtual 130, 3) := by decide +kernel
theorem k_Canon_lastAgreesWithAll_61 : decode Y_Canon_lastAgreesWithAll.2.1 61 = .ok (.ifCond .eq 5, 3) := by decide +kernel
theorem k_Canon_lastAgreesWithAll_64 : decode Y_Canon_lastAgreesWithAll.2.1 64 = .ok (.iconst 0, 1) := by decide +kernel
theorem k_Canon_lastAgreesWithAll_65 : decode Y_Canon_lastAgreesWithAll.2.1 65 = .ok (.ireturn, 1) := by decide +kernel
theorem k_Canon_lastAgreesWithAll_66 : decode Y_Canon_lastAgreesWithAll.2.1 66 = .ok (.iinc 5 1, 3) := by decide +kernel
theorem k_Canon_lastAgreesWithAll_69 : decode Y_Canon_lastAgreesWithAll.2.1 69 = .ok (.goto (-23), 3) := by decide +kernel
theorem k_Canon_lastAgreesWithAll_72 : decode Y_Canon_lastAgreesWithAll.2.1 72 = .ok (.iinc 3 1, 3) := by decide +kernel
theorem k_Canon_lastAgreesWithAll_75 : decode Y_Canon_lastAgreesWithAll.2.1 75 = .ok (.goto (-53), 3) := by decide +kernel
theorem k_Canon_lastAgreesWithAll_78 : decode Y_Canon_lastAgreesWithAll.2.1 78 = .ok (.iconst 1, 1) := by decide +kernel
theorem k_Canon_lastAgreesWithAll_79 : decode Y_Canon_lastAgreesWithAll.2.1 79 = .ok (.ireturn, 1) := by decide +kernel
theorem k_Canon_farthestSound_0 : decode Y_Canon_farthestSound.2.1 0 = .ok (.sipush 999, 3) := by decide +kernel
theorem k_Canon_farthestSound_3 : decode Y_Canon_farthestSound.2.1 3 = .ok (.istore_n 3, 1) := by decide +kernel
theorem k_Canon_farthestSound_4 : decode Y_Canon_farthestSound.2.1 4 = .ok (.aload_n 0, 1) := by decide +kernel
theorem k_Canon_farthestSound_5 : decode Y_Canon_farthestSound.2.1 5 = .ok (.iload_n 1, 1) := by decide +kernel
theorem k_Canon_farthestSound_6 : decode Y_Canon_farthestSound.2.1 6 = .ok (.invokevirtual 93, 3) := by decide +kernel
theorem k_Canon_farthestSound_9 : decode Y_Canon_farthestSound.2.1 9 = .ok (.istore 4, 2) := by decide +kernel
theorem k_Canon_farthestSound_11 : decode Y_Canon_farthestSound.2.1 11 = .ok (.aload_n 0, 1) := by decide +kernel
theorem k_Canon_farthestSound_12 : decode Y_Canon_farthestSound.2.1 12 = .ok (.getfield 27, 3) := by decide +kernel
theorem k_Canon_farthestSound_15 : decode Y_Canon_farthestSound.2.1 15 = .ok (.iload_n 1, 1) := by decide +kernel
theorem k_Canon_farthestSound_16 : decode Y_Canon_farthestSound.2.1 16 = .ok (.invokevirtual 64, 3) := by decide +kernel
theorem k_Canon_farthestSound_19 : decode Y_Canon_farthestSound.2.1 19 = .ok (.istore 5, 2) := by decide +kernel
theorem k_Canon_farthestSound_21 : decode Y_Canon_farthestSound.2.1 21 = .ok (.iload 5, 2) := by decide +kernel
theorem k_Canon_farthestSound_23 : decode Y_Canon_farthestSound.2.1 23 = .ok (.iload 4, 2) := by decide +kernel
theorem k_Canon_farthestSound_25 : decode Y_Canon_farthestSound.2.1 25 = .ok (.if_icmp .ge 51, 3) := by decide +kernel
theorem k_Canon_farthestSound_28 : decode Y_Canon_farthestSound.2.1 28 = .ok (.aload_n 0, 1) := by decide +kernel
theorem k_Canon_farthestSound_29 : decode Y_Canon_farthestSound.2.1 29 = .ok (.iload_n 1, 1) := by decide +kernel
theorem k_Canon_farthestSound_30 : decode Y_Canon_farthestSound.2.1 30 = .ok (.iload 5, 2) := by decide +kernel
theorem k_Canon_farthestSound_32 : decode Y_Canon_farthestSound.2.1 32 = .ok (.invokevirtual 120, 3) := by decide +kernel
theorem k_Canon_farthestSound_35 : decode Y_Canon_farthestSound.2.1 35 = .ok (.istore 6, 2) := by decide +kernel
theorem k_Canon_farthestSound_37 : decode Y_Canon_farthestSound.2.1 37 = .ok (.iload_n 3, 1) := by decide +kernel
theorem k_Canon_farthestSound_38 : decode Y_Canon_farthestSound.2.1 38 = .ok (.sipush 999, 3) := by decide +kernel
theorem k_Canon_farthestSound_41 : decode Y_Canon_farthestSound.2.1 41 = .ok (.if_icmp .ne 9, 3) := by decide +kernel
theorem k_Canon_farthestSound_44 : decode Y_Canon_farthestSound.2.1 44 = .ok (.iload 6, 2) := by decide +kernel
theorem k_Canon_farthestSound_46 : decode Y_Canon_farthestSound.2.1 46 = .ok (.istore_n 3, 1) := by decide +kernel
theorem k_Canon_farthestSound_47 : decode Y_Canon_farthestSound.2.1 47 = .ok (.goto 23, 3) := by decide +kernel
theorem k_Canon_farthestSound_50 : decode Y_Canon_farthestSound.2.1 50 = .ok (.iload_n 2, 1) := by decide +kernel
theorem k_Canon_farthestSound_51 : decode Y_Canon_farthestSound.2.1 51 = .ok (.ifCond .eq 12, 3) := by decide +kernel
theorem k_Canon_farthestSound_54 : decode Y_Canon_farthestSound.2.1 54 = .ok (.iload_n 3, 1) := by decide +kernel
theorem k_Canon_farthestSound_55 : decode Y_Canon_farthestSound.2.1 55 = .ok (.iload 6, 2) := by decide +kernel
theorem k_Canon_farthestSound_57 : decode Y_Canon_farthestSound.2.1 57 = .ok (.invokestatic 96, 3) := by decide +kernel
theorem k_Canon_farthestSound_60 : decode Y_Canon_farthestSound.2.1 60 = .ok (.goto 9, 3) := by decide +kernel
theorem k_Canon_farthestSound_63 : decode Y_Canon_farthestSound.2.1 63 = .ok (.iload_n 3, 1) := by decide +kernel
theorem k_Canon_farthestSound_64 : decode Y_Canon_farthestSound.2.1 64 = .ok (.iload 6, 2) := by decide +kernel
theorem k_Canon_farthestSound_66 : decode Y_Canon_farthestSound.2.1 66 = .ok (.invokestatic 139, 3) := by decide +kernel
theorem k_Canon_farthestSound_69 : decode Y_Canon_farthestSound.2.1 69 = .ok (.istore_n 3, 1) := by decide +kernel
theorem k_Canon_farthestSound_70 : decode Y_Canon_farthestSound.2.1 70 = .ok (.iinc 5 1, 3) := by decide +kernel
theorem k_Canon_farthestSound_73 : decode Y_Canon_farthestSound.2.1 73 = .ok (.goto (-52), 3) := by decide +kernel
theorem k_Canon_farthestSound_76 : decode Y_Canon_farthestSound.2.1 76 = .ok (.iload_n 3, 1) := by decide +kernel
theorem k_Canon_farthestSound_77 : decode Y_Canon_farthestSound.2.1 77 = .ok (.ireturn, 1) := by decide +kernel
theorem k_Canon_stillIfStoppedAt_0 : decode Y_Canon_stillIfStoppedAt.2.1 0 = .ok (.iconst 0, 1) := by decide +kernel
theorem k_Canon_stillIfStoppedAt_1 : decode Y_Canon_stillIfStoppedAt.2.1 1 = .ok (.istore_n 2, 1) := by decide +kernel
theorem k_Canon_stillIfStoppedAt_2 : decode Y_Canon_stillIfStoppedAt.2.1 2 = .ok (.iconst 0, 1) := by decide +kernel
theorem k_Canon_stillIfStoppedAt_3 : decode Y_Canon_stillIfStoppedAt.2.1 3 = .ok (.istore_n 3, 1) := by decide +kernel
theorem k_Canon_stillIfStoppedAt_4 : decode Y_Canon_stillIfStoppedAt.2.1 4 = .ok (.iload_n 3, 1) := by decide +kernel
theorem k_Canon_stillIfStoppedAt_5 : decode Y_Canon_stillIfStoppedAt.2.1 5 = .ok (.aload_n 0, 1) := by decide +kernel
theorem k_Canon_stillIfStoppedAt_6 : decode Y_Canon_stillIfStoppedAt.2.1 6 = .ok (.invokevirtual 80, 3) := by decide +kernel
theorem k_Canon_stillIfStoppedAt_9 : decode Y_Canon_stillIfStoppedAt.2.1 9 = .ok (.if_icmp .ge 73, 3) := by decide +kernel
theorem k_Canon_stillIfStoppedAt_12 : decode Y_Canon_stillIfStoppedAt.2.1 12 = .ok (.aload_n 0, 1) := by decide +kernel
theorem k_Canon_stillIfStoppedAt_13 : decode Y_Canon_stillIfStoppedAt.2.1 13 = .ok (.iload_n 3, 1) := by decide +kernel
theorem k_Canon_stillIfStoppedAt_14 : decode Y_Canon_stillIfStoppedAt.2.1 14 = .ok (.invokevirtual 90, 3) := by decide +kernel
theorem k_Canon_stillIfStoppedAt_17 : decode Y_Canon_stillIfStoppedAt.2.1 17 = .ok (.istore 4, 2) := by decide +kernel
theorem k_Canon_stillIfStoppedAt_19 : decode Y_Canon_stillIfStoppedAt.2.1 19 = .ok (.iload_n 1, 1) := by decide +kernel
theorem k_Canon_stillIfStoppedAt_20 : decode Y_Canon_stillIfStoppedAt.2.1 20 = .ok (.aload_n 0, 1) := by decide +kernel
theorem k_Canon_stillIfStoppedAt_21 : decode Y_Canon_stillIfStoppedAt.2.1 21 = .ok (.getfield 27, 3) := by decide +kernel
theorem k_Canon_stillIfStoppedAt_24 : decode Y_Canon_stillIfStoppedAt.2.1 24 = .ok (.iload_n 3, 1) := by decide +kernel
theorem k_Canon_stillIfStoppedAt_25 : decode Y_Canon_stillIfStoppedAt.2.1 25 = .ok (.invokevirtual 64, 3) := by decide +kernel
theorem k_Canon_stillIfStoppedAt_28 : decode Y_Canon_stillIfStoppedAt.2.1 28 = .ok (.isub, 1) := by decide +kernel
theorem k_Canon_stillIfStoppedAt_29 : decode Y_Canon_stillIfStoppedAt.2.1 29 = .ok (.istore 5, 2) := by decide +kernel
theorem k_Canon_stillIfStoppedAt_31 : decode Y_Canon_stillIfStoppedAt.2.1 31 = .ok (.iload 4, 2) := by decide +kernel
theorem k_Canon_stillIfStoppedAt_33 : decode Y_Canon_stillIfStoppedAt.2.1 33 = .ok (.ifCond .le 43, 3) := by decide +kernel
theorem k_Canon_stillIfStoppedAt_36 : decode Y_Canon_stillIfStoppedAt.2.1 36 = .ok (.iload 5, 2) := by decide +kernel
theorem k_Canon_stillIfStoppedAt_38 : decode Y_Canon_stillIfStoppedAt.2.1 38 = .ok (.ifCond .lt 38, 3) := by decide +kernel
theorem k_Canon_stillIfStoppedAt_41 : decode Y_Canon_stillIfStoppedAt.2.1 41 = .ok (.iload 5, 2) := by decide +kernel
theorem k_Canon_stillIfStoppedAt_43 : decode Y_Canon_stillIfStoppedAt.2.1 43 = .ok (.iload 4, 2) := by decide +kernel
theorem k_Canon_stillIfStoppedAt_45 : decode Y_Canon_stillIfStoppedAt.2.1 45 = .ok (.idiv, 1) := by decide +kernel
theorem k_Canon_stillIfStoppedAt_46 : decode Y_Canon_stillIfStoppedAt.2.1 46 = .ok (.iconst 1, 1) := by decide +kernel
theorem k_Canon_stillIfStoppedAt_47 : decode Y_Canon_stillIfStoppedAt.2.1 47 = .ok (.iadd, 1) := by decide +kernel
theorem k_Canon_stillIfStoppedAt_48 : decode Y_Canon_stillIfStoppedAt.2.1 48 = .ok (.aload_n 0, 1) := by decide +kernel
theorem k_Canon_stillIfStoppedAt_49 : decode Y_Canon_stillIfStoppedAt.2.1 49 = .ok (.getfield 39, 3) := by decide +kernel
theorem k_Canon_stillIfStoppedAt_52 : decode Y_Canon_stillIfStoppedAt.2.1 52 = .ok (.invokestatic 139, 3) := by decide +kernel
theorem k_Canon_stillIfStoppedAt_55 : decode Y_Canon_stillIfStoppedAt.2.1 55 = .ok (.istore 6, 2) := by decide +kernel
theorem k_Canon_stillIfStoppedAt_57 : decode Y_Canon_stillIfStoppedAt.2.1 57 = .ok (.iload_n 2, 1) := by decide +kernel
theorem k_Canon_stillIfStoppedAt_58 : decode Y_Canon_stillIfStoppedAt.2.1 58 = .ok (.aload_n 0, 1) := by decide +kernel
theorem k_Canon_stillIfStoppedAt_59 : decode Y_Canon_stillIfStoppedAt.2.1 59 = .ok (.getfield 27, 3) := by decide +kernel
theorem k_Canon_stillIfStoppedAt_62 : decode Y_Canon_stillIfStoppedAt.2.1 62 = .ok (.iload_n 3, 1) := by decide +kernel
theorem k_Canon_stillIfStoppedAt_63 : decode Y_Canon_stillIfStoppedAt.2.1 63 = .ok (.invokevirtual 64, 3) := by decide +kernel
theorem k_Canon_stillIfStoppedAt_66 : decode Y_Canon_stillIfStoppedAt.2.1 66 = .ok (.iload 6, 2) := by decide +kernel
theorem k_Canon_stillIfStoppedAt_68 : decode Y_Canon_stillIfStoppedAt.2.1 68 = .ok (.iload 4, 2) := by decide +kernel
theorem k_Canon_stillIfStoppedAt_70 : decode Y_Canon_stillIfStoppedAt.2.1 70 = .ok (.imul, 1) := by decide +kernel
theorem k_Canon_stillIfStoppedAt_71 : decode Y_Canon_stillIfStoppedAt.2.1 71 = .ok (.iadd, 1) := by decide +kernel
theorem k_Canon_stillIfStoppedAt_72 : decode Y_Canon_stillIfStoppedAt.2.1 72 = .ok (.invokestatic 96, 3) := by decide +kernel
theorem k_Canon_stillIfStoppedAt_75 : decode Y_Canon_stillIfStoppedAt.2.1 75 = .ok (.istore_n 2, 1) := by decide +kernel
theorem k_Canon_stillIfStoppedAt_76 : decode Y_Canon_stillIfStoppedAt.2.1 76 = .ok (.iinc 3 1, 3) := by decide +kernel
theorem k_Canon_stillIfStoppedAt_79 : decode Y_Canon_stillIfStoppedAt.2.1 79 = .ok (.goto (-75), 3) := by decide +kernel
theorem k_Canon_stillIfStoppedAt_82 : decode Y_Canon_stillIfStoppedAt.2.1 82 = .ok (.iload_n 2, 1) := by decide +kernel
theorem k_Canon_stillIfStoppedAt_83 : decode Y_Canon_stillIfStoppedAt.2.1 83 = .ok (.ireturn, 1) := by decide +kernel
theorem k_Canon_unisonBeats_0 : decode Y_Canon_unisonBeats.2.1 0 = .ok (.iconst 0, 1) := by decide +kernel
theorem k_Canon_unisonBeats_1 : decode Y_Canon_unisonBeats.2.1 1 = .ok (.istore_n 1, 1) := by decide +kernel
theorem k_Canon_unisonBeats_2 : decode Y_Canon_unisonBeats.2.1 2 = .ok (.aload_n 0, 1) := by decide +kernel
theorem k_Canon_unisonBeats_3 : decode Y_Canon_unisonBeats.2.1 3 = .ok (.invokevirtual 133, 3) := by decide +kernel
theorem k_Canon_unisonBeats_6 : decode Y_Canon_unisonBeats.2.1 6 = .ok (.istore_n 2, 1) := by decide +kernel
theorem k_Canon_unisonBeats_7 : decode Y_Canon_unisonBeats.2.1 7 = .ok (.iconst 0, 1) := by decide +kernel
theorem k_Canon_unisonBeats_8 : decode Y_Canon_unisonBeats.2.1 8 = .ok (.istore_n 3, 1) := by decide +kernel
theorem k_Canon_unisonBeats_9 : decode Y_Canon_unisonBeats.2.1 9 = .ok (.iload_n 3, 1) := by decide +kernel
theorem k_Canon_unisonBeats_10 : decode Y_Canon_unisonBeats.2.1 10 = .ok (.iload_n 2, 1) := by decide +kernel
theorem k_Canon_unisonBeats_11 : decode Y_Canon_unisonBeats.2.1 11 = .ok (.if_icmp .ge 24, 3) := by decide +kernel
theorem k_Canon_unisonBeats_14 : decode Y_Canon_unisonBeats.2.1 14 = .ok (.aload_n 0, 1) := by decide +kernel
theorem k_Canon_unisonBeats_15 : decode Y_Canon_unisonBeats.2.1 15 = .ok (.iload_n 3, 1) := by decide +kernel
theorem k_Canon_unisonBeats_16 : decode Y_Canon_unisonBeats.2.1 16 = .ok (.invokevirtual 127, 3) := by decide +kernel
theorem k_Canon_unisonBeats_19 : decode Y_Canon_unisonBeats.2.1 19 = .ok (.aload_n 0, 1) := by decide +kernel
theorem k_Canon_unisonBeats_20 : decode Y_Canon_unisonBeats.2.1 20 = .ok (.invokevirtual 142, 3) := by decide +kernel
theorem k_Canon_unisonBeats_23 : decode Y_Canon_unisonBeats.2.1 23 = .ok (.ifCond .eq 6, 3) := by decide +kernel
theorem k_Canon_unisonBeats_26 : decode Y_Canon_unisonBeats.2.1 26 = .ok (.iinc 1 1, 3) := by decide +kernel
theorem k_Canon_unisonBeats_29 : decode Y_Canon_unisonBeats.2.1 29 = .ok (.iinc 3 1, 3) := by decide +kernel
theorem k_Canon_unisonBeats_32 : decode Y_Canon_unisonBeats.2.1 32 = .ok (.goto (-23), 3) := by decide +kernel
theorem k_Canon_unisonBeats_35 : decode Y_Canon_unisonBeats.2.1 35 = .ok (.iload_n 1, 1) := by decide +kernel
theorem k_Canon_unisonBeats_36 : decode Y_Canon_unisonBeats.2.1 36 = .ok (.ireturn, 1) := by decide +kernel
theorem k_Canon_isUnison_0 : decode Y_Canon_isUnison.2.1 0 = .ok (.iconst 0, 1) := by decide +kernel
theorem k_Canon_isUnison_1 : decode Y_Canon_isUnison.2.1 1 = .ok (.istore_n 1, 1) := by decide +kernel
theorem k_Canon_isUnison_2 : decode Y_Canon_isUnison.2.1 2 = .ok (.iload_n 1, 1) := by decide +kernel
theorem k_Canon_isUnison_3 : decode Y_Canon_isUnison.2.1 3 = .ok (.aload_n 0, 1) := by decide +kernel
theorem k_Canon_isUnison_4 : decode Y_Canon_isUnison.2.1 4 = .ok (.getfield 36, 3) := by decide +kernel
theorem k_Canon_isUnison_7 : decode Y_Canon_isUnison.2.1 7 = .ok (.invokevirtual 56, 3) := by decide +kernel
theorem k_Canon_isUnison_10 : decode Y_Canon_isUnison.2.1 10 = .ok (.if_icmp .ge 51, 3) := by decide +kernel
theorem k_Canon_isUnison_13 : decode Y_Canon_isUnison.2.1 13 = .ok (.iload_n 1, 1) := by decide +kernel
theorem k_Canon_isUnison_14 : decode Y_Canon_isUnison.2.1 14 = .ok (.iconst 1, 1) := by decide +kernel
theorem k_Canon_isUnison_15 : decode Y_Canon_isUnison.2.1 15 = .ok (.iadd, 1) := by decide +kernel
theorem k_Canon_isUnison_16 : decode Y_Canon_isUnison.2.1 16 = .ok (.istore_n 2, 1) := by decide +kernel
theorem k_Canon_isUnison_17 : decode Y_Canon_isUnison.2.1 17 = .ok (.iload_n 2, 1) := by decide +kernel
theorem k_Canon_isUnison_18 : decode Y_Canon_isUnison.2.1 18 = .ok (.aload_n 0, 1) := by decide +kernel
theorem k_Canon_isUnison_19 : decode Y_Canon_isUnison.2.1 19 = .ok (.getfield 36, 3) := by decide +kernel
theorem k_Canon_isUnison_22 : decode Y_Canon_isUnison.2.1 22 = .ok (.invokevirtual 56, 3) := by decide +kernel
theorem k_Canon_isUnison_25 : decode Y_Canon_isUnison.2.1 25 = .ok (.if_icmp .ge 30, 3) := by decide +kernel
theorem k_Canon_isUnison_28 : decode Y_Canon_isUnison.2.1 28 = .ok (.aload_n 0, 1) := by decide +kernel
theorem k_Canon_isUnison_29 : decode Y_Canon_isUnison.2.1 29 = .ok (.getfield 36, 3) := by decide +kernel
theorem k_Canon_isUnison_32 : decode Y_Canon_isUnison.2.1 32 = .ok (.iload_n 1, 1) := by decide +kernel
theorem k_Canon_isUnison_33 : decode Y_Canon_isUnison.2.1 33 = .ok (.invokevirtual 64, 3) := by decide +kernel
theorem k_Canon_isUnison_36 : decode Y_Canon_isUnison.2.1 36 = .ok (.aload_n 0, 1) := by decide +kernel
theorem k_Canon_isUnison_37 : decode Y_Canon_isUnison.2.1 37 = .ok (.getfield 36, 3) := by decide +kernel
theorem k_Canon_isUnison_40 : decode Y_Canon_isUnison.2.1 40 = .ok (.iload_n 2, 1) := by decide +kernel
theorem k_Canon_isUnison_41 : decode Y_Canon_isUnison.2.1 41 = .ok (.invokevirtual 64, 3) := by decide +kernel
theorem k_Canon_isUnison_44 : decode Y_Canon_isUnison.2.1 44 = .ok (.if_icmp .ne 5, 3) := by decide +kernel
theorem k_Canon_isUnison_47 : decode Y_Canon_isUnison.2.1 47 = .ok (.iconst 1, 1) := by decide +kernel
theorem k_Canon_isUnison_48 : decode Y_Canon_isUnison.2.1 48 = .ok (.ireturn, 1) := by decide +kernel
theorem k_Canon_isUnison_49 : decode Y_Canon_isUnison.2.1 49 = .ok (.iinc 2 1, 3) := by decide +kernel
theorem k_Canon_isUnison_52 : decode Y_Canon_isUnison.2.1 52 = .ok (.goto (-35), 3) := by decide +kernel
theorem k_Canon_isUnison_55 : decode Y_Canon_isUnison.2.1 55 = .ok (.iinc 1 1, 3) := by decide +kernel
theorem k_Canon_isUnison_58 : decode Y_Canon_isUnison.2.1 58 = .ok (.goto (-56), 3) := by decide +kernel
theorem k_Canon_isUnison_61 : decode Y_Canon_isUnison.2.1 61 = .ok (.iconst 0, 1) := by decide +kernel
theorem k_Canon_isUnison_62 : decode Y_Canon_isUnison.2.1 62 = .ok (.ireturn, 1) := by decide +kernel
theorem k_Canon_firstNotHeard_0 : decode Y_Canon_firstNotHeard.2.1 0 = .ok (.aload_n 3, 1) := by decide +kernel
theorem k_Canon_firstNotHeard_1 : decode Y_Canon_firstNotHeard.2.1 1 = .ok (.ifnonnull 6, 3) := by decide +kernel
theorem k_Canon_firstNotHeard_4 : decode Y_Canon_firstNotHeard.2.1 4 = .ok (.bipush (-9), 2) := by decide +kernel
theorem k_Canon_firstNotHeard_6 : decode Y_Canon_firstNotHeard.2.1 6 = .ok (.ireturn, 1) := by decide +kernel
theorem k_Canon_firstNotHeard_7 : decode Y_Canon_firstNotHeard.2.1 7 = .ok (.iconst 0, 1) := by decide +kernel
theorem k_Canon_firstNotHeard_8 : decode Y_Canon_firstNotHeard.2.1 8 = .ok (.istore 4, 2) := by decide +kernel
theorem k_Canon_firstNotHeard_10 : decode Y_Canon_firstNotHeard.2.1 10 = .ok (.iload 4, 2) := by decide +kernel
theorem k_Canon_firstNotHeard_12 : decode Y_Canon_firstNotHeard.2.1 12 = .ok (.aload_n 3, 1) := by decide +kernel
theorem k_Canon_firstNotHeard_13 : decode Y_Canon_firstNotHeard.2.1 13 = .ok (.invokevirtual 56, 3) := by decide +kernel
theorem k_Canon_firstNotHeard_16 : decode Y_Canon_firstNotHeard.2.1 16 = .ok (.if_icmp .ge 54, 3) := by decide +kernel
theorem k_Canon_firstNotHeard_19 : decode Y_Canon_firstNotHeard.2.1 19 = .ok (.aload_n 0, 1) := by decide +kernel
theorem k_Canon_firstNotHeard_20 : decode Y_Canon_firstNotHeard.2.1 20 = .ok (.iload_n 1, 1) := by decide +kernel
theorem k_Canon_firstNotHeard_21 : decode Y_Canon_firstNotHeard.2.1 21 = .ok (.iload_n 2, 1) := by decide +kernel
theorem k_Canon_firstNotHeard_22 : decode Y_Canon_firstNotHeard.2.1 22 = .ok (.iload 4, 2) := by decide +kernel
theorem k_Canon_firstNotHeard_24 : decode Y_Canon_firstNotHeard.2.1 24 = .ok (.iadd, 1) := by decide +kernel
theorem k_Canon_firstNotHeard_25 : decode Y_Canon_firstNotHeard.2.1 25 = .ok (.invokevirtual 120, 3) := by decide +kernel
theorem k_Canon_firstNotHeard_28 : decode Y_Canon_firstNotHeard.2.1 28 = .ok (.istore 5, 2) := by decide +kernel
theorem k_Canon_firstNotHeard_30 : decode Y_Canon_firstNotHeard.2.1 30 = .ok (.iload 5, 2) := by decide +kernel
theorem k_Canon_firstNotHeard_32 : decode Y_Canon_firstNotHeard.2.1 32 = .ok (.sipush 999, 3) := by decide +kernel
theorem k_Canon_firstNotHeard_35 : decode Y_Canon_firstNotHeard.2.1 35 = .ok (.if_icmp .ne 8, 3) := by decide +kernel
theorem k_Canon_firstNotHeard_38 : decode Y_Canon_firstNotHeard.2.1 38 = .ok (.bipush 60, 2) := by decide +kernel
theorem k_Canon_firstNotHeard_40 : decode Y_Canon_firstNotHeard.2.1 40 = .ok (.goto 8, 3) := by decide +kernel
theorem k_Canon_firstNotHeard_43 : decode Y_Canon_firstNotHeard.2.1 43 = .ok (.iload 5, 2) := by decide +kernel
theorem k_Canon_firstNotHeard_45 : decode Y_Canon_firstNotHeard.2.1 45 = .ok (.bipush 10, 2) := by decide +kernel
theorem k_Canon_firstNotHeard_47 : decode Y_Canon_firstNotHeard.2.1 47 = .ok (.iadd, 1) := by decide +kernel
theorem k_Canon_firstNotHeard_48 : decode Y_Canon_firstNotHeard.2.1 48 = .ok (.istore 6, 2) := by decide +kernel
theorem k_Canon_firstNotHeard_50 : decode Y_Canon_firstNotHeard.2.1 50 = .ok (.aload_n 3, 1) := by decide +kernel
theorem k_Canon_firstNotHeard_51 : decode Y_Canon_firstNotHeard.2.1 51 = .ok (.iload 4, 2) := by decide +kernel
theorem k_Canon_firstNotHeard_53 : decode Y_Canon_firstNotHeard.2.1 53 = .ok (.invokevirtual 64, 3) := by decide +kernel
theorem k_Canon_firstNotHeard_56 : decode Y_Canon_firstNotHeard.2.1 56 = .ok (.iload 6, 2) := by decide +kernel
theorem k_Canon_firstNotHeard_58 : decode Y_Canon_firstNotHeard.2.1 58 = .ok (.if_icmp .eq 6, 3) := by decide +kernel
theorem k_Canon_firstNotHeard_61 : decode Y_Canon_firstNotHeard.2.1 61 = .ok (.iload 4, 2) := by decide +kernel
theorem k_Canon_firstNotHeard_63 : decode Y_Canon_firstNotHeard.2.1 63 = .ok (.ireturn, 1) := by decide +kernel
theorem k_Canon_firstNotHeard_64 : decode Y_Canon_firstNotHeard.2.1 64 = .ok (.iinc 4 1, 3) := by decide +kernel
theorem k_Canon_firstNotHeard_67 : decode Y_Canon_firstNotHeard.2.1 67 = .ok (.goto (-57), 3) := by decide +kernel
theorem k_Canon_firstNotHeard_70 : decode Y_Canon_firstNotHeard.2.1 70 = .ok (.bipush (-9), 2) := by decide +kernel
theorem k_Canon_firstNotHeard_72 : decode Y_Canon_firstNotHeard.2.1 72 = .ok (.ireturn, 1) := by decide +kernel
theorem k_Meetings_init_0 : decode Y_Meetings_init.2.1 0 = .ok (.aload_n 0, 1) := by decide +kernel
theorem k_Meetings_init_1 : decode Y_Meetings_init.2.1 1 = .ok (.invokespecial 3, 3) := by decide +kernel
theorem k_Meetings_init_4 : decode Y_Meetings_init.2.1 4 = .ok (.aload_n 0, 1) := by decide +kernel
theorem k_Meetings_init_5 : decode Y_Meetings_init.2.1 5 = .ok (.new 9, 3) := by decide +kernel
theorem k_Meetings_init_8 : decode Y_Meetings_init.2.1 8 = .ok (.dup, 1) := by decide +kernel
theorem k_Meetings_init_9 : decode Y_Meetings_init.2.1 9 = .ok (.sipush 1200, 3) := by decide +kernel
theorem k_Meetings_init_12 : decode Y_Meetings_init.2.1 12 = .ok (.invokespecial 11, 3) := by decide +kernel
theorem k_Meetings_init_15 : decode Y_Meetings_init.2.1 15 = .ok (.putfield 14, 3) := by decide +kernel
theorem k_Meetings_init_18 : decode Y_Meetings_init.2.1 18 = .ok (.aload_n 0, 1) := by decide +kernel
theorem k_Meetings_init_19 : decode Y_Meetings_init.2.1 19 = .ok (.new 9, 3) := by decide +kernel
theorem k_Meetings_init_22 : decode Y_Meetings_init.2.1 22 = .ok (.dup, 1) := by decide +kernel
theorem k_Meetings_init_23 : decode Y_Meetings_init.2.1 23 = .ok (.sipush 1200, 3) := by decide +kernel
theorem k_Meetings_init_26 : decode Y_Meetings_init.2.1 26 = .ok (.invokespecial 11, 3) := by decide +kernel
theorem k_Meetings_init_29 : decode Y_Meetings_init.2.1 29 = .ok (.putfield 20, 3) := by decide +kernel
theorem k_Meetings_init_32 : decode Y_Meetings_init.2.1 32 = .ok (.return_, 1) := by decide +kernel
theorem k_Meetings_gather_0 : decode Y_Meetings_gather.2.1 0 = .ok (.aload_n 0, 1) := by decide +kernel
theorem k_Meetings_gather_1 : decode Y_Meetings_gather.2.1 1 = .ok (.getfield 14, 3) := by decide +kernel
theorem k_Meetings_gather_4 : decode Y_Meetings_gather.2.1 4 = .ok (.invokevirtual 23, 3) := by decide +kernel
theorem k_Meetings_gather_7 : decode Y_Meetings_gather.2.1 7 = .ok (.aload_n 0, 1) := by decide +kernel
theorem k_Meetings_gather_8 : decode Y_Meetings_gather.2.1 8 = .ok (.getfield 20, 3) := by decide +kernel
theorem k_Meetings_gather_11 : decode Y_Meetings_gather.2.1 11 = .ok (.invokevirtual 23, 3) := by decide +kernel
theorem k_Meetings_gather_14 : decode Y_Meetings_gather.2.1 14 = .ok (.aload_n 1, 1) := by decide +kernel
theorem k_Meetings_gather_15 : decode Y_Meetings_gather.2.1 15 = .ok (.ifnonnull 4, 3) := by decide +kernel
theorem k_Meetings_gather_18 : decode Y_Meetings_gather.2.1 18 = .ok (.return_, 1) := by decide +kernel
theorem k_Meetings_gather_19 : decode Y_Meetings_gather.2.1 19 = .ok (.iconst 0, 1) := by decide +kernel
theorem k_Meetings_gather_20 : decode Y_Meetings_gather.2.1 20 = .ok (.istore_n 2, 1) := by decide +kernel
theorem k_Meetings_gather_21 : decode Y_Meetings_gather.2.1 21 = .ok (.iload_n 2, 1) := by decide +kernel
theorem k_Meetings_gather_22 : decode Y_Meetings_gather.2.1 22 = .ok (.aload_n 1, 1) := by decide +kernel
theorem k_Meetings_gather_23 : decode Y_Meetings_gather.2.1 23 = .ok (.invokevirtual 26, 3) := by decide +kernel
theorem k_Meetings_gather_26 : decode Y_Meetings_gather.2.1 26 = .ok (.if_icmp .ge 97, 3) := by decide +kernel
theorem k_Meetings_gather_29 : decode Y_Meetings_gather.2.1 29 = .ok (.iload_n 2, 1) := by decide +kernel
theorem k_Meetings_gather_30 : decode Y_Meetings_gather.2.1 30 = .ok (.iconst 1, 1) := by decide +kernel
theorem k_Meetings_gather_31 : decode Y_Meetings_gather.2.1 31 = .ok (.iadd, 1) := by decide +kernel
theorem k_Meetings_gather_32 : decode Y_Meetings_gather.2.1 32 = .ok (.istore_n 3, 1) := by decide +kernel
theorem k_Meetings_gather_33 : decode Y_Meetings_gather.2.1 33 = .ok (.iload_n 3, 1) := by decide +kernel
theorem k_Meetings_gather_34 : decode Y_Meetings_gather.2.1 34 = .ok (.aload_n 1, 1) := by decide +kernel
theorem k_Meetings_gather_35 : decode Y_Meetings_gather.2.1 35 = .ok (.invokevirtual 26, 3) := by decide +kernel
theorem k_Meetings_gather_38 : decode Y_Meetings_gather.2.1 38 = .ok (.if_icmp .ge 79, 3) := by decide +kernel
theorem k_Meetings_gather_41 : decode Y_Meetings_gather.2.1 41 = .ok (.aload_n 0, 1) := by decide +kernel
theorem k_Meetings_gather_42 : decode Y_Meetings_gather.2.1 42 = .ok (.getfield 14, 3) := by decide +kernel
theorem k_Meetings_gather_45 : decode Y_Meetings_gather.2.1 45 = .ok (.invokevirtual 32, 3) := by decide +kernel
theorem k_Meetings_gather_48 : decode Y_Meetings_gather.2.1 48 = .ok (.istore 4, 2) := by decide +kernel
theorem k_Meetings_gather_50 : decode Y_Meetings_gather.2.1 50 = .ok (.aload_n 1, 1) := by decide +kernel
theorem k_Meetings_gather_51 : decode Y_Meetings_gather.2.1 51 = .ok (.iload_n 2, 1) := by decide +kernel
theorem k_Meetings_gather_52 : decode Y_Meetings_gather.2.1 52 = .ok (.invokevirtual 35, 3) := by decide +kernel
theorem k_Meetings_gather_55 : decode Y_Meetings_gather.2.1 55 = .ok (.aload_n 1, 1) := by decide +kernel
theorem k_Meetings_gather_56 : decode Y_Meetings_gather.2.1 56 = .ok (.iload_n 3, 1) := by decide +kernel
theorem k_Meetings_gather_57 : decode Y_Meetings_gather.2.1 57 = .ok (.invokevirtual 35, 3) := by decide +kernel
theorem k_Meetings_gather_60 : decode Y_Meetings_gather.2.1 60 = .ok (.invokestatic 39, 3) := by decide +kernel
theorem k_Meetings_gather_63 : decode Y_Meetings_gather.2.1 63 = .ok (.istore 5, 2) := by decide +kernel
theorem k_Meetings_gather_65 : decode Y_Meetings_gather.2.1 65 = .ok (.aload_n 1, 1) := by decide +kernel
theorem k_Meetings_gather_66 : decode Y_Meetings_gather.2.1 66 = .ok (.iload_n 2, 1) := by decide +kernel
theorem k_Meetings_gather_67 : decode Y_Meetings_gather.2.1 67 = .ok (.invokevirtual 45, 3) := by decide +kernel
theorem k_Meetings_gather_70 : decode Y_Meetings_gather.2.1 70 = .ok (.aload_n 1, 1) := by decide +kernel
theorem k_Meetings_gather_71 : decode Y_Meetings_gather.2.1 71 = .ok (.iload_n 3, 1) := by decide +kernel
theorem k_Meetings_gather_72 : decode Y_Meetings_gather.2.1 72 = .ok (.invokevirtual 45, 3) := by decide +kernel
theorem k_Meetings_gather_75 : decode Y_Meetings_gather.2.1 75 = .ok (.invokestatic 48, 3) := by decide +kernel
theorem k_Meetings_gather_78 : decode Y_Meetings_gather.2.1 78 = .ok (.istore 6, 2) := by decide +kernel
theorem k_Meetings_gather_80 : decode Y_Meetings_gather.2.1 80 = .ok (.iload 5, 2) := by decide +kernel
theorem k_Meetings_gather_82 : decode Y_Meetings_gather.2.1 82 = .ok (.istore 7, 2) := by decide +kernel
theorem k_Meetings_gather_84 : decode Y_Meetings_gather.2.1 84 = .ok (.iload 7, 2) := by decide +kernel
theorem k_Meetings_gather_86 : decode Y_Meetings_gather.2.1 86 = .ok (.iload 6, 2) := by decide +kernel
theorem k_Meetings_gather_88 : decode Y_Meetings_gather.2.1 88 = .ok (.if_icmp .ge 23, 3) := by decide +kernel
theorem k_Meetings_gather_91 : decode Y_Meetings_gather.2.1 91 = .ok (.aload_n 0, 1) := by decide +kernel
theorem k_Meetings_gather_92 : decode Y_Meetings_gather.2.1 92 = .ok (.aload_n 1, 1) := by decide +kernel
theorem k_Meetings_gather_93 : decode Y_Meetings_gather.2.1 93 = .ok (.iload_n 2, 1) := by decide +kernel
theorem k_Meetings_gather_94 : decode Y_Meetings_gather.2.1 94 = .ok (.iload_n 3, 1) := by decide +kernel
theorem k_Meetings_gather_95 : decode Y_Meetings_gather.2.1 95 = .ok (.iload 7, 2) := by decide +kernel
theorem k_Meetings_gather_97 : decode Y_Meetings_gather.2.1 97 = .ok (.invokestatic 51, 3) := by decide +kernel
theorem k_Meetings_gather_100 : decode Y_Meetings_gather.2.1 100 = .ok (.iload 4, 2) := by decide +kernel
theorem k_Meetings_gather_102 : decode Y_Meetings_gather.2.1 102 = .ok (.invokevirtual 55, 3) := by decide +kernel
theorem k_Meetings_gather_105 : decode Y_Meetings_gather.2.1 105 = .ok (.iinc 7 1, 3) := by decide +kernel
theorem k_Meetings_gather_108 : decode Y_Meetings_gather.2.1 108 = .ok (.goto (-24), 3) := by decide +kernel
theorem k_Meetings_gather_111 : decode Y_Meetings_gather.2.1 111 = .ok (.iinc 3 1, 3) := by decide +kernel
theorem k_Meetings_gather_114 : decode Y_Meetings_gather.2.1 114 = .ok (.goto (-81), 3) := by decide +kernel
theorem k_Meetings_gather_117 : decode Y_Meetings_gather.2.1 117 = .ok (.iinc 2 1, 3) := by decide +kernel
theorem k_Meetings_gather_120 : decode Y_Meetings_gather.2.1 120 = .ok (.goto (-99), 3) := by decide +kernel
theorem k_Meetings_gather_123 : decode Y_Meetings_gather.2.1 123 = .ok (.return_, 1) := by decide +kernel
theorem k_Meetings_wayOf_0 : decode Y_Meetings_wayOf.2.1 0 = .ok (.aload_n 0, 1) := by decide +kernel
theorem k_Meetings_wayOf_1 : decode Y_Meetings_wayOf.2.1 1 = .ok (.iload_n 1, 1) := by decide +kernel
theorem k_Meetings_wayOf_2 : decode Y_Meetings_wayOf.2.1 2 = .ok (.iload_n 3, 1) := by decide +kernel
theorem k_Meetings_wayOf_3 : decode Y_Meetings_wayOf.2.1 3 = .ok (.invokevirtual 59, 3) := by decide +kernel
theorem k_Meetings_wayOf_6 : decode Y_Meetings_wayOf.2.1 6 = .ok (.aload_n 0, 1) := by decide +kernel
theorem k_Meetings_wayOf_7 : decode Y_Meetings_wayOf.2.1 7 = .ok (.iload_n 2, 1) := by decide +kernel
theorem k_Meetings_wayOf_8 : decode Y_Meetings_wayOf.2.1 8 = .ok (.iload_n 3, 1) := by decide +kernel
theorem k_Meetings_wayOf_9 : decode Y_Meetings_wayOf.2.1 9 = .ok (.invokevirtual 59, 3) := by decide +kernel
theorem k_Meetings_wayOf_12 : decode Y_Meetings_wayOf.2.1 12 = .ok (.isub, 1) := by decide +kernel
theorem k_Meetings_wayOf_13 : decode Y_Meetings_wayOf.2.1 13 = .ok (.istore 4, 2) := by decide +kernel
theorem k_Meetings_wayOf_15 : decode Y_Meetings_wayOf.2.1 15 = .ok (.aload_n 0, 1) := by decide +kernel
theorem k_Meetings_wayOf_16 : decode Y_Meetings_wayOf.2.1 16 = .ok (.iload_n 2, 1) := by decide +kernel
theorem k_Meetings_wayOf_17 : decode Y_Meetings_wayOf.2.1 17 = .ok (.invokevirtual 62, 3) := by decide +kernel
theorem k_Meetings_wayOf_20 : decode Y_Meetings_wayOf.2.1 20 = .ok (.istore 5, 2) := by decide +kernel
theorem k_Meetings_wayOf_22 : decode Y_Meetings_wayOf.2.1 22 = .ok (.iload 5, 2) := by decide +kernel
theorem k_Meetings_wayOf_24 : decode Y_Meetings_wayOf.2.1 24 = .ok (.ifCond .eq 8, 3) := by decide +kernel
theorem k_Meetings_wayOf_27 : decode Y_Meetings_wayOf.2.1 27 = .ok (.iload 4, 2) := by decide +kernel
theorem k_Meetings_wayOf_29 : decode Y_Meetings_wayOf.2.1 29 = .ok (.ineg, 1) := by decide +kernel
theorem k_Meetings_wayOf_30 : decode Y_Meetings_wayOf.2.1 30 = .ok (.istore 4, 2) := by decide +kernel
theorem k_Meetings_wayOf_32 : decode Y_Meetings_wayOf.2.1 32 = .ok (.aload_n 0, 1) := by decide +kernel
theorem k_Meetings_wayOf_33 : decode Y_Meetings_wayOf.2.1 33 = .ok (.iload_n 1, 1) := by decide +kernel
theorem k_Meetings_wayOf_34 : decode Y_Meetings_wayOf.2.1 34 = .ok (.iload_n 3, 1) := by decide +kernel
theorem k_Meetings_wayOf_35 : decode Y_Meetings_wayOf.2.1 35 = .ok (.invokevirtual 66, 3) := by decide +kernel
theorem k_Meetings_wayOf_38 : decode Y_Meetings_wayOf.2.1 38 = .ok (.aload_n 0, 1) := by decide +kernel
theorem k_Meetings_wayOf_39 : decode Y_Meetings_wayOf.2.1 39 = .ok (.iload_n 2, 1) := by decide +kernel
theorem k_Meetings_wayOf_40 : decode Y_Meetings_wayOf.2.1 40 = .ok (.iload_n 3, 1) := by decide +kernel
theorem k_Meetings_wayOf_41 : decode Y_Meetings_wayOf.2.1 41 = .ok (.invokevirtual 66, 3) := by decide +kernel
theorem k_Meetings_wayOf_44 : decode Y_Meetings_wayOf.2.1 44 = .ok (.iconst 4, 1) := by decide +kernel
theorem k_Meetings_wayOf_45 : decode Y_Meetings_wayOf.2.1 45 = .ok (.ishl, 1) := by decide +kernel
theorem k_Meetings_wayOf_46 : decode Y_Meetings_wayOf.2.1 46 = .ok (.ior, 1) := by decide +kernel
theorem k_Meetings_wayOf_47 : decode Y_Meetings_wayOf.2.1 47 = .ok (.istore 6, 2) := by decide +kernel
theorem k_Meetings_wayOf_49 : decode Y_Meetings_wayOf.2.1 49 = .ok (.aload_n 0, 1) := by decide +kernel
theorem k_Meetings_wayOf_50 : decode Y_Meetings_wayOf.2.1 50 = .ok (.iload_n 1, 1) := by decide +kernel
theorem k_Meetings_wayOf_51 : decode Y_Meetings_wayOf.2.1 51 = .ok (.invokevirtual 62, 3) := by decide +kernel
theorem k_Meetings_wayOf_54 : decode Y_Meetings_wayOf.2.1 54 = .ok (.iload 5, 2) := by decide +kernel
theorem k_Meetings_wayOf_56 : decode Y_Meetings_wayOf.2.1 56 = .ok (.if_icmp .eq 9, 3) := by decide +kernel
theorem k_Meetings_wayOf_59 : decode Y_Meetings_wayOf.2.1 59 = .ok (.sipush 16384, 3) := by decide +kernel
theorem k_Meetings_wayOf_62 : decode Y_Meetings_wayOf.2.1 62 = .ok (.goto 4, 3) := by decide +kernel
theorem k_Meetings_wayOf_65 : decode Y_Meetings_wayOf.2.1 65 = .ok (.iconst 0, 1) := by decide +kernel
theorem k_Meetings_wayOf_66 : decode Y_Meetings_wayOf.2.1 66 = .ok (.istore 7, 2) := by decide +kernel
theorem k_Meetings_wayOf_68 : decode Y_Meetings_wayOf.2.1 68 = .ok (.iload 6, 2) := by decide +kernel
theorem k_Meetings_wayOf_70 : decode Y_Meetings_wayOf.2.1 70 = .ok (.iload 4, 2) := by decide +kernel
theorem k_Meetings_wayOf_72 : decode Y_Meetings_wayOf.2.1 72 = .ok (.bipush 32, 2) := by decide +kernel
theorem k_Meetings_wayOf_74 : decode Y_Meetings_wayOf.2.1 74 = .ok (.iadd, 1) := by decide +kernel
theorem k_Meetings_wayOf_75 : decode Y_Meetings_wayOf.2.1 75 = .ok (.bipush 8, 2) := by decide +kernel
theorem k_Meetings_wayOf_77 : decode Y_Meetings_wayOf.2.1 77 = .ok (.ishl, 1) := by decide +kernel
theorem k_Meetings_wayOf_78 : decode Y_Meetings_wayOf.2.1 78 = .ok (.ior, 1) := by decide +kernel
theorem k_Meetings_wayOf_79 : decode Y_Meetings_wayOf.2.1 79 = .ok (.iload 7, 2) := by decide +kernel
theorem k_Meetings_wayOf_81 : decode Y_Meetings_wayOf.2.1 81 = .ok (.ior, 1) := by decide +kernel
theorem k_Meetings_wayOf_82 : decode Y_Meetings_wayOf.2.1 82 = .ok (.ireturn, 1) := by decide +kernel
theorem k_Meetings_meet_0 : decode Y_Meetings_meet.2.1 0 = .ok (.aload_n 0, 1) := by decide +kernel
theorem k_Meetings_meet_1 : decode Y_Meetings_meet.2.1 1 = .ok (.getfield 14, 3) := by decide +kernel
theorem k_Meetings_meet_4 : decode Y_Meetings_meet.2.1 4 = .ok (.invokevirtual 32, 3) := by decide +kernel
theorem k_Meetings_meet_7 : decode Y_Meetings_meet.2.1 7 = .ok (.iconst 1, 1) := by decide +kernel
theorem k_Meetings_meet_8 : decode Y_Meetings_meet.2.1 8 = .ok (.isub, 1) := by decide +kernel
theorem k_Meetings_meet_9 : decode Y_Meetings_meet.2.1 9 = .ok (.istore_n 3, 1) := by decide +kernel
theorem k_Meetings_meet_10 : decode Y_Meetings_meet.2.1 10 = .ok (.iload_n 3, 1) := by decide +kernel
theorem k_Meetings_meet_11 : decode Y_Meetings_meet.2.1 11 = .ok (.iload_n 2, 1) := by decide +kernel
theorem k_Meetings_meet_12 : decode Y_Meetings_meet.2.1 12 = .ok (.if_icmp .lt 40, 3) := by decide +kernel
theorem k_Meetings_meet_15 : decode Y_Meetings_meet.2.1 15 = .ok (.aload_n 0, 1) := by decide +kernel
theorem k_Meetings_meet_16 : decode Y_Meetings_meet.2.1 16 = .ok (.getfield 14, 3) := by decide +kernel
theorem k_Meetings_meet_19 : decode Y_Meetings_meet.2.1 19 = .ok (.iload_n 3, 1) := by decide +kernel
theorem k_Meetings_meet_20 : decode Y_Meetings_meet.2.1 20 = .ok (.invokevirtual 69, 3) := by decide +kernel
theorem k_Meetings_meet_23 : decode Y_Meetings_meet.2.1 23 = .ok (.iload_n 1, 1) := by decide +kernel
theorem k_Meetings_meet_24 : decode Y_Meetings_meet.2.1 24 = .ok (.if_icmp .ne 22, 3) := by decide +kernel
theorem k_Meetings_meet_27 : decode Y_Meetings_meet.2.1 27 = .ok (.aload_n 0, 1) := by decide +kernel
theorem k_Meetings_meet_28 : decode Y_Meetings_meet.2.1 28 = .ok (.getfield 20, 3) := by decide +kernel
theorem k_Meetings_meet_31 : decode Y_Meetings_meet.2.1 31 = .ok (.iload_n 3, 1) := by decide +kernel
theorem k_Meetings_meet_32 : decode Y_Meetings_meet.2.1 32 = .ok (.aload_n 0, 1) := by decide +kernel
theorem k_Meetings_meet_33 : decode Y_Meetings_meet.2.1 33 = .ok (.getfield 20, 3) := by decide +kernel
theorem k_Meetings_meet_36 : decode Y_Meetings_meet.2.1 36 = .ok (.iload_n 3, 1) := by decide +kernel
theorem k_Meetings_meet_37 : decode Y_Meetings_meet.2.1 37 = .ok (.invokevirtual 69, 3) := by decide +kernel
theorem k_Meetings_meet_40 : decode Y_Meetings_meet.2.1 40 = .ok (.iconst 1, 1) := by decide +kernel
theorem k_Meetings_meet_41 : decode Y_Meetings_meet.2.1 41 = .ok (.iadd, 1) := by decide +kernel
theorem k_Meetings_meet_42 : decode Y_Meetings_meet.2.1 42 = .ok (.invokevirtual 72, 3) := by decide +kernel
theorem k_Meetings_meet_45 : decode Y_Meetings_meet.2.1 45 = .ok (.return_, 1) := by decide +kernel
theorem k_Meetings_meet_46 : decode Y_Meetings_meet.2.1 46 = .ok (.iinc 3 (-1), 3) := by decide +kernel
theorem k_Meetings_meet_49 : decode Y_Meetings_meet.2.1 49 = .ok (.goto (-39), 3) := by decide +kernel
theorem k_Meetings_meet_52 : decode Y_Meetings_meet.2.1 52 = .ok (.aload_n 0, 1) := by decide +kernel
theorem k_Meetings_meet_53 : decode Y_Meetings_meet.2.1 53 = .ok (.getfield 14, 3) := by decide +kernel
theorem k_Meetings_meet_56 : decode Y_Meetings_meet.2.1 56 = .ok (.iload_n 1, 1) := by decide +kernel
theorem k_Meetings_meet_57 : decode Y_Meetings_meet.2.1 57 = .ok (.invokevirtual 75, 3) := by decide +kernel
theorem k_Meetings_meet_60 : decode Y_Meetings_meet.2.1 60 = .ok (.aload_n 0, 1) := by decide +kernel
theorem k_Meetings_meet_61 : decode Y_Meetings_meet.2.1 61 = .ok (.getfield 20, 3) := by decide +kernel
theorem k_Meetings_meet_64 : decode Y_Meetings_meet.2.1 64 = .ok (.iconst 1, 1) := by decide +kernel
theorem k_Meetings_meet_65 : decode Y_Meetings_meet.2.1 65 = .ok (.invokevirtual 75, 3) := by decide +kernel
theorem k_Meetings_meet_68 : decode Y_Meetings_meet.2.1 68 = .ok (.return_, 1) := by decide +kernel
theorem k_Meetings_size_0 : decode Y_Meetings_size.2.1 0 = .ok (.aload_n 0, 1) := by decide +kernel
theorem k_Meetings_size_1 : decode Y_Meetings_size.2.1 1 = .ok (.getfield 14, 3) := by decide +kernel
theorem k_Meetings_size_4 : decode Y_Meetings_size.2.1 4 = .ok (.invokevirtual 32, 3) := by decide +kernel
theorem k_Meetings_size_7 : decode Y_Meetings_size.2.1 7 = .ok (.ireturn, 1) := by decide +kernel
theorem k_Meetings_isIll_0 : decode Y_Meetings_isIll.2.1 0 = .ok (.aload_n 0, 1) := by decide +kernel
theorem k_Meetings_isIll_1 : decode Y_Meetings_isIll.2.1 1 = .ok (.getfield 14, 3) := by decide +kernel
theorem k_Meetings_isIll_4 : decode Y_Meetings_isIll.2.1 4 = .ok (.iload_n 1, 1) := by decide +kernel
theorem k_Meetings_isIll_5 : decode Y_Meetings_isIll.2.1 5 = .ok (.invokevirtual 69, 3) := by decide +kernel
theorem k_Meetings_isIll_8 : decode Y_Meetings_isIll.2.1 8 = .ok (.istore_n 3, 1) := by decide +kernel
theorem k_Meetings_isIll_9 : decode Y_Meetings_isIll.2.1 9 = .ok (.aload_n 2, 1) := by decide +kernel
theorem k_Meetings_isIll_10 : decode Y_Meetings_isIll.2.1 10 = .ok (.getfield 78, 3) := by decide +kernel
theorem k_Meetings_isIll_13 : decode Y_Meetings_isIll.2.1 13 = .ok (.getfield 82, 3) := by decide +kernel
theorem k_Meetings_isIll_16 : decode Y_Meetings_isIll.2.1 16 = .ok (.astore 4, 2) := by decide +kernel
theorem k_Meetings_isIll_18 : decode Y_Meetings_isIll.2.1 18 = .ok (.aload 4, 2) := by decide +kernel
theorem k_Meetings_isIll_20 : decode Y_Meetings_isIll.2.1 20 = .ok (.iload_n 3, 1) := by decide +kernel
theorem k_Meetings_isIll_21 : decode Y_Meetings_isIll.2.1 21 = .ok (.bipush 15, 2) := by decide +kernel
theorem k_Meetings_isIll_23 : decode Y_Meetings_isIll.2.1 23 = .ok (.iand, 1) := by decide +kernel
theorem k_Meetings_isIll_24 : decode Y_Meetings_isIll.2.1 24 = .ok (.invokevirtual 69, 3) := by decide +kernel
theorem k_Meetings_isIll_27 : decode Y_Meetings_isIll.2.1 27 = .ok (.istore 5, 2) := by decide +kernel
theorem k_Meetings_isIll_29 : decode Y_Meetings_isIll.2.1 29 = .ok (.aload 4, 2) := by decide +kernel
theorem k_Meetings_isIll_31 : decode Y_Meetings_isIll.2.1 31 = .ok (.iload_n 3, 1) := by decide +kernel
theorem k_Meetings_isIll_32 : decode Y_Meetings_isIll.2.1 32 = .ok (.iconst 4, 1) := by decide +kernel
theorem k_Meetings_isIll_33 : decode Y_Meetings_isIll.2.1 33 = .ok (.ishr, 1) := by decide +kernel
theorem k_Meetings_isIll_34 : decode Y_Meetings_isIll.2.1 34 = .ok (.bipush 15, 2) := by decide +kernel
theorem k_Meetings_isIll_36 : decode Y_Meetings_isIll.2.1 36 = .ok (.iand, 1) := by decide +kernel
theorem k_Meetings_isIll_37 : decode Y_Meetings_isIll.2.1 37 = .ok (.invokevirtual 69, 3) := by decide +kernel
theorem k_Meetings_isIll_40 : decode Y_Meetings_isIll.2.1 40 = .ok (.istore 6, 2) := by decide +kernel
theorem k_Meetings_isIll_42 : decode Y_Meetings_isIll.2.1 42 = .ok (.iload_n 3, 1) := by decide +kernel
theorem k_Meetings_isIll_43 : decode Y_Meetings_isIll.2.1 43 = .ok (.bipush 8, 2) := by decide +kernel
theorem k_Meetings_isIll_45 : decode Y_Meetings_isIll.2.1 45 = .ok (.ishr, 1) := by decide +kernel
theorem k_Meetings_isIll_46 : decode Y_Meetings_isIll.2.1 46 = .ok (.bipush 63, 2) := by decide +kernel
theorem k_Meetings_isIll_48 : decode Y_Meetings_isIll.2.1 48 = .ok (.iand, 1) := by decide +kernel
theorem k_Meetings_isIll_49 : decode Y_Meetings_isIll.2.1 49 = .ok (.bipush 32, 2) := by decide +kernel
theorem k_Meetings_isIll_51 : decode Y_Meetings_isIll.2.1 51 = .ok (.isub, 1) := by decide +kernel
theorem k_Meetings_isIll_52 : decode Y_Meetings_isIll.2.1 52 = .ok (.istore 7, 2) := by decide +kernel
theorem k_Meetings_isIll_54 : decode Y_Meetings_isIll.2.1 54 = .ok (.iload 7, 2) := by decide +kernel
theorem k_Meetings_isIll_56 : decode Y_Meetings_isIll.2.1 56 = .ok (.iload_n 3, 1) := by decide +kernel
theorem k_Meetings_isIll_57 : decode Y_Meetings_isIll.2.1 57 = .ok (.bipush 14, 2) := by decide +kernel
theorem k_Meetings_isIll_59 : decode Y_Meetings_isIll.2.1 59 = .ok (.ishr, 1) := by decide +kernel
theorem k_Meetings_isIll_60 : decode Y_Meetings_isIll.2.1 60 = .ok (.ifCond .ne 11, 3) := by decide +kernel
theorem k_Meetings_isIll_63 : decode Y_Meetings_isIll.2.1 63 = .ok (.iload 5, 2) := by decide +kernel
theorem k_Meetings_isIll_65 : decode Y_Meetings_isIll.2.1 65 = .ok (.iload 6, 2) := by decide +kernel
theorem k_Meetings_isIll_67 : decode Y_Meetings_isIll.2.1 67 = .ok (.isub, 1) := by decide +kernel
theorem k_Meetings_isIll_68 : decode Y_Meetings_isIll.2.1 68 = .ok (.goto 17, 3) := by decide +kernel
theorem k_Meetings_isIll_71 : decode Y_Meetings_isIll.2.1 71 = .ok (.iconst 2, 1) := by decide +kernel
theorem k_Meetings_isIll_72 : decode Y_Meetings_isIll.2.1 72 = .ok (.aload 4, 2) := by decide +kernel
theorem k_Meetings_isIll_74 : decode Y_Meetings_isIll.2.1 74 = .ok (.iconst 0, 1) := by decide +kernel
theorem k_Meetings_isIll_75 : decode Y_Meetings_isIll.2.1 75 = .ok (.invokevirtual 69, 3) := by decide +kernel
theorem k_Meetings_isIll_78 : decode Y_Meetings_isIll.2.1 78 = .ok (.imul, 1) := by decide +kernel
theorem k_Meetings_isIll_79 : decode Y_Meetings_isIll.2.1 79 = .ok (.iload 5, 2) := by decide +kernel
theorem k_Meetings_isIll_81 : decode Y_Meetings_isIll.2.1 81 = .ok (.isub, 1) := by decide +kernel
theorem k_Meetings_isIll_82 : decode Y_Meetings_isIll.2.1 82 = .ok (.iload 6, 2) := by decide +kernel
theorem k_Meetings_isIll_84 : decode Y_Meetings_isIll.2.1 84 = .ok (.isub, 1) := by decide +kernel
theorem k_Meetings_isIll_85 : decode Y_Meetings_isIll.2.1 85 = .ok (.iadd, 1) := by decide +kernel
theorem k_Meetings_isIll_86 : decode Y_Meetings_isIll.2.1 86 = .ok (.istore 8, 2) := by decide +kernel
theorem k_Meetings_isIll_88 : decode Y_Meetings_isIll.2.1 88 = .ok (.aload_n 2, 1) := by decide +kernel
theorem k_Meetings_isIll_89 : decode Y_Meetings_isIll.2.1 89 = .ok (.getfield 87, 3) := by decide +kernel
theorem k_Meetings_isIll_92 : decode Y_Meetings_isIll.2.1 92 = .ok (.iload 8, 2) := by decide +kernel
theorem k_Meetings_isIll_94 : decode Y_Meetings_isIll.2.1 94 = .ok (.invokestatic 91, 3) := by decide +kernel
theorem k_Meetings_isIll_97 : decode Y_Meetings_isIll.2.1 97 = .ok (.ifCond .ne 7, 3) := by decide +kernel
theorem k_Meetings_isIll_100 : decode Y_Meetings_isIll.2.1 100 = .ok (.iconst 1, 1) := by decide +kernel
theorem k_Meetings_isIll_101 : decode Y_Meetings_isIll.2.1 101 = .ok (.goto 4, 3) := by decide +kernel
theorem k_Meetings_isIll_104 : decode Y_Meetings_isIll.2.1 104 = .ok (.iconst 0, 1) := by decide +kernel
theorem k_Meetings_isIll_105 : decode Y_Meetings_isIll.2.1 105 = .ok (.ireturn, 1) := by decide +kernel
theorem k_Meetings_notesOf_0 : decode Y_Meetings_notesOf.2.1 0 = .ok (.aload_n 0, 1) := by decide +kernel
theorem k_Meetings_notesOf_1 : decode Y_Meetings_notesOf.2.1 1 = .ok (.getfield 14, 3) := by decide +kernel
theorem k_Meetings_notesOf_4 : decode Y_Meetings_notesOf.2.1 4 = .ok (.iload_n 1, 1) := by decide +kernel
theorem k_Meetings_notesOf_5 : decode Y_Meetings_notesOf.2.1 5 = .ok (.invokevirtual 69, 3) := by decide +kernel
theorem k_Meetings_notesOf_8 : decode Y_Meetings_notesOf.2.1 8 = .ok (.istore_n 2, 1) := by decide +kernel
theorem k_Meetings_notesOf_9 : decode Y_Meetings_notesOf.2.1 9 = .ok (.iconst 1, 1) := by decide +kernel
theorem k_Meetings_notesOf_10 : decode Y_Meetings_notesOf.2.1 10 = .ok (.iload_n 2, 1) := by decide +kernel
theorem k_Meetings_notesOf_11 : decode Y_Meetings_notesOf.2.1 11 = .ok (.bipush 15, 2) := by decide +kernel
theorem k_Meetings_notesOf_13 : decode Y_Meetings_notesOf.2.1 13 = .ok (.iand, 1) := by decide +kernel
theorem k_Meetings_notesOf_14 : decode Y_Meetings_notesOf.2.1 14 = .ok (.ishl, 1) := by decide +kernel
theorem k_Meetings_notesOf_15 : decode Y_Meetings_notesOf.2.1 15 = .ok (.iconst 1, 1) := by decide +kernel
theorem k_Meetings_notesOf_16 : decode Y_Meetings_notesOf.2.1 16 = .ok (.iload_n 2, 1) := by decide +kernel
theorem k_Meetings_notesOf_17 : decode Y_Meetings_notesOf.2.1 17 = .ok (.iconst 4, 1) := by decide +kernel
theorem k_Meetings_notesOf_18 : decode Y_Meetings_notesOf.2.1 18 = .ok (.ishr, 1) := by decide +kernel
theorem k_Meetings_notesOf_19 : decode Y_Meetings_notesOf.2.1 19 = .ok (.bipush 15, 2) := by decide +kernel
theorem k_Meetings_notesOf_21 : decode Y_Meetings_notesOf.2.1 21 = .ok (.iand, 1) := by decide +kernel
theorem k_Meetings_notesOf_22 : decode Y_Meetings_notesOf.2.1 22 = .ok (.ishl, 1) := by decide +kernel
theorem k_Meetings_notesOf_23 : decode Y_Meetings_notesOf.2.1 23 = .ok (.ior, 1) := by decide +kernel
theorem k_Meetings_notesOf_24 : decode Y_Meetings_notesOf.2.1 24 = .ok (.iload_n 2, 1) := by decide +kernel
theorem k_Meetings_notesOf_25 : decode Y_Meetings_notesOf.2.1 25 = .ok (.bipush 14, 2) := by decide +kernel
theorem k_Meetings_notesOf_27 : decode Y_Meetings_notesOf.2.1 27 = .ok (.ishr, 1) := by decide +kernel
theorem k_Meetings_notesOf_28 : decode Y_Meetings_notesOf.2.1 28 = .ok (.ior, 1) := by decide +kernel
theorem k_Meetings_notesOf_29 : decode Y_Meetings_notesOf.2.1 29 = .ok (.ireturn, 1) := by decide +kernel
theorem k_Meetings_areWell_0 : decode Y_Meetings_areWell.2.1 0 = .ok (.iconst 0, 1) := by decide +kernel
theorem k_Meetings_areWell_1 : decode Y_Meetings_areWell.2.1 1 = .ok (.istore_n 2, 1) := by decide +kernel
theorem k_Meetings_areWell_2 : decode Y_Meetings_areWell.2.1 2 = .ok (.iload_n 2, 1) := by decide +kernel
theorem k_Meetings_areWell_3 : decode Y_Meetings_areWell.2.1 3 = .ok (.aload_n 0, 1) := by decide +kernel
theorem k_Meetings_areWell_4 : decode Y_Meetings_areWell.2.1 4 = .ok (.getfield 14, 3) := by decide +kernel
theorem k_Meetings_areWell_7 : decode Y_Meetings_areWell.2.1 7 = .ok (.invokevirtual 32, 3) := by decide +kernel
theorem k_Meetings_areWell_10 : decode Y_Meetings_areWell.2.1 10 = .ok (.if_icmp .ge 20, 3) := by decide +kernel
theorem k_Meetings_areWell_13 : decode Y_Meetings_areWell.2.1 13 = .ok (.aload_n 0, 1) := by decide +kernel
theorem k_Meetings_areWell_14 : decode Y_Meetings_areWell.2.1 14 = .ok (.iload_n 2, 1) := by decide +kernel
theorem k_Meetings_areWell_15 : decode Y_Meetings_areWell.2.1 15 = .ok (.aload_n 1, 1) := by decide +kernel
theorem k_Meetings_areWell_16 : decode Y_Meetings_areWell.2.1 16 = .ok (.invokevirtual 95, 3) := by decide +kernel
theorem k_Meetings_areWell_19 : decode Y_Meetings_areWell.2.1 19 = .ok (.ifCond .eq 5, 3) := by decide +kernel
theorem k_Meetings_areWell_22 : decode Y_Meetings_areWell.2.1 22 = .ok (.iconst 0, 1) := by decide +kernel
theorem k_Meetings_areWell_23 : decode Y_Meetings_areWell.2.1 23 = .ok (.ireturn, 1) := by decide +kernel
theorem k_Meetings_areWell_24 : decode Y_Meetings_areWell.2.1 24 = .ok (.iinc 2 1, 3) := by decide +kernel
theorem k_Meetings_areWell_27 : decode Y_Meetings_areWell.2.1 27 = .ok (.goto (-25), 3) := by decide +kernel
theorem k_Meetings_areWell_30 : decode Y_Meetings_areWell.2.1 30 = .ok (.iconst 1, 1) := by decide +kernel
theorem k_Meetings_areWell_31 : decode Y_Meetings_areWell.2.1 31 = .ok (.ireturn, 1) := by decide +kernel
theorem k_Meetings_ills_0 : decode Y_Meetings_ills.2.1 0 = .ok (.iconst 0, 1) := by decide +kernel
theorem k_Meetings_ills_1 : decode Y_Meetings_ills.2.1 1 = .ok (.istore_n 2, 1) := by decide +kernel
theorem k_Meetings_ills_2 : decode Y_Meetings_ills.2.1 2 = .ok (.iconst 0, 1) := by decide +kernel
theorem k_Meetings_ills_3 : decode Y_Meetings_ills.2.1 3 = .ok (.istore_n 3, 1) := by decide +kernel
theorem k_Meetings_ills_4 : decode Y_Meetings_ills.2.1 4 = .ok (.iload_n 3, 1) := by decide +kernel
theorem k_Meetings_ills_5 : decode Y_Meetings_ills.2.1 5 = .ok (.aload_n 0, 1) := by decide +kernel
theorem k_Meetings_ills_6 : decode Y_Meetings_ills.2.1 6 = .ok (.getfield 14, 3) := by decide +kernel
theorem k_Meetings_ills_9 : decode Y_Meetings_ills.2.1 9 = .ok (.invokevirtual 32, 3) := by decide +kernel
theorem k_Meetings_ills_12 : decode Y_Meetings_ills.2.1 12 = .ok (.if_icmp .ge 29, 3) := by decide +kernel
theorem k_Meetings_ills_15 : decode Y_Meetings_ills.2.1 15 = .ok (.aload_n 0, 1) := by decide +kernel
theorem k_Meetings_ills_16 : decode Y_Meetings_ills.2.1 16 = .ok (.iload_n 3, 1) := by decide +kernel
theorem k_Meetings_ills_17 : decode Y_Meetings_ills.2.1 17 = .ok (.aload_n 1, 1) := by decide +kernel
theorem k_Meetings_ills_18 : decode Y_Meetings_ills.2.1 18 = .ok (.invokevirtual 95, 3) := by decide +kernel
theorem k_Meetings_ills_21 : decode Y_Meetings_ills.2.1 21 = .ok (.ifCond .eq 14, 3) := by decide +kernel
theorem k_Meetings_ills_24 : decode Y_Meetings_ills.2.1 24 = .ok (.iload_n 2, 1) := by decide +kernel
theorem k_Meetings_ills_25 : decode Y_Meetings_ills.2.1 25 = .ok (.aload_n 0, 1) := by decide +kernel
theorem k_Meetings_ills_26 : decode Y_Meetings_ills.2.1 26 = .ok (.getfield 20, 3) := by decide +kernel
theorem k_Meetings_ills_29 : decode Y_Meetings_ills.2.1 29 = .ok (.iload_n 3, 1) := by decide +kernel
theorem k_Meetings_ills_30 : decode Y_Meetings_ills.2.1 30 = .ok (.invokevirtual 69, 3) := by decide +kernel
theorem k_Meetings_ills_33 : decode Y_Meetings_ills.2.1 33 = .ok (.iadd, 1) := by decide +kernel
theorem k_Meetings_ills_34 : decode Y_Meetings_ills.2.1 34 = .ok (.istore_n 2, 1) := by decide +kernel
theorem k_Meetings_ills_35 : decode Y_Meetings_ills.2.1 35 = .ok (.iinc 3 1, 3) := by decide +kernel
theorem k_Meetings_ills_38 : decode Y_Meetings_ills.2.1 38 = .ok (.goto (-34), 3) := by decide +kernel
theorem k_Meetings_ills_41 : decode Y_Meetings_ills.2.1 41 = .ok (.iload_n 2, 1) := by decide +kernel
theorem k_Meetings_ills_42 : decode Y_Meetings_ills.2.1 42 = .ok (.ireturn, 1) := by decide +kernel
theorem k_Mind_init_0 : decode Y_Mind_init.2.1 0 = .ok (.aload_n 0, 1) := by decide +kernel
theorem k_Mind_init_1 : decode Y_Mind_init.2.1 1 = .ok (.invokespecial 3, 3) := by decide +kernel
theorem k_Mind_init_4 : decode Y_Mind_init.2.1 4 = .ok (.aload_n 0, 1) := by decide +kernel
theorem k_Mind_init_5 : decode Y_Mind_init.2.1 5 = .ok (.new 9, 3) := by decide +kernel
theorem k_Mind_init_8 : decode Y_Mind_init.2.1 8 = .ok (.dup, 1) := by decide +kernel
theorem k_Mind_init_9 : decode Y_Mind_init.2.1 9 = .ok (.invokespecial 11, 3) := by decide +kernel
theorem k_Mind_init_12 : decode Y_Mind_init.2.1 12 = .ok (.putfield 12, 3) := by decide +kernel
theorem k_Mind_init_15 : decode Y_Mind_init.2.1 15 = .ok (.aload_n 0, 1) := by decide +kernel
theorem k_Mind_init_16 : decode Y_Mind_init.2.1 16 = .ok (.new 18, 3) := by decide +kernel
theorem k_Mind_init_19 : decode Y_Mind_init.2.1 19 = .ok (.dup, 1) := by decide +kernel
theorem k_Mind_init_20 : decode Y_Mind_init.2.1 20 = .ok (.invokespecial 20, 3) := by decide +kernel
theorem k_Mind_init_23 : decode Y_Mind_init.2.1 23 = .ok (.putfield 21, 3) := by decide +kernel
theorem k_Mind_init_26 : decode Y_Mind_init.2.1 26 = .ok (.aload_n 0, 1) := by decide +kernel
theorem k_Mind_init_27 : decode Y_Mind_init.2.1 27 = .ok (.new 25, 3) := by decide +kernel
theorem k_Mind_init_30 : decode Y_Mind_init.2.1 30 = .ok (.dup, 1) := by decide +kernel
theorem k_Mind_init_31 : decode Y_Mind_init.2.1 31 = .ok (.bipush 12, 2) := by decide +kernel
theorem k_Mind_init_33 : decode Y_Mind_init.2.1 33 = .ok (.invokespecial 27, 3) := by decide +kernel
theorem k_Mind_init_36 : decode Y_Mind_init.2.1 36 = .ok (.putfield 30, 3) := by decide +kernel
theorem k_Mind_init_39 : decode Y_Mind_init.2.1 39 = .ok (.return_, 1) := by decide +kernel
theorem k_Mind_take_0 : decode Y_Mind_take.2.1 0 = .ok (.aload_n 0, 1) := by decide +kernel
theorem k_Mind_take_1 : decode Y_Mind_take.2.1 1 = .ok (.getfield 12, 3) := by decide +kernel
theorem k_Mind_take_4 : decode Y_Mind_take.2.1 4 = .ok (.aload_n 1, 1) := by decide +kernel
theorem k_Mind_take_5 : decode Y_Mind_take.2.1 5 = .ok (.invokevirtual 34, 3) := by decide +kernel
theorem k_Mind_take_8 : decode Y_Mind_take.2.1 8 = .ok (.aload_n 0, 1) := by decide +kernel
theorem k_Mind_take_9 : decode Y_Mind_take.2.1 9 = .ok (.getfield 12, 3) := by decide +kernel
theorem k_Mind_take_12 : decode Y_Mind_take.2.1 12 = .ok (.areturn, 1) := by decide +kernel
theorem k_Mind_agreeingEntries_0 : decode Y_Mind_agreeingEntries.2.1 0 = .ok (.aload_n 0, 1) := by decide +kernel
theorem k_Mind_agreeingEntries_1 : decode Y_Mind_agreeingEntries.2.1 1 = .ok (.aload_n 1, 1) := by decide +kernel
theorem k_Mind_agreeingEntries_2 : decode Y_Mind_agreeingEntries.2.1 2 = .ok (.invokevirtual 38, 3) := by decide +kernel
theorem k_Mind_agreeingEntries_5 : decode Y_Mind_agreeingEntries.2.1 5 = .ok (.pop, 1) := by decide +kernel
theorem k_Mind_agreeingEntries_6 : decode Y_Mind_agreeingEntries.2.1 6 = .ok (.aload_n 0, 1) := by decide +kernel
theorem k_Mind_agreeingEntries_7 : decode Y_Mind_agreeingEntries.2.1 7 = .ok (.getfield 12, 3) := by decide +kernel
theorem k_Mind_agreeingEntries_10 : decode Y_Mind_agreeingEntries.2.1 10 = .ok (.invokevirtual 42, 3) := by decide +kernel
theorem k_Mind_agreeingEntries_13 : decode Y_Mind_agreeingEntries.2.1 13 = .ok (.istore 4, 2) := by decide +kernel
theorem k_Mind_agreeingEntries_15 : decode Y_Mind_agreeingEntries.2.1 15 = .ok (.aload_n 0, 1) := by decide +kernel
theorem k_Mind_agreeingEntries_16 : decode Y_Mind_agreeingEntries.2.1 16 = .ok (.getfield 12, 3) := by decide +kernel
theorem k_Mind_agreeingEntries_19 : decode Y_Mind_agreeingEntries.2.1 19 = .ok (.iload_n 2, 1) := by decide +kernel
theorem k_Mind_agreeingEntries_20 : decode Y_Mind_agreeingEntries.2.1 20 = .ok (.iconst 0, 1) := by decide +kernel
theorem k_Mind_agreeingEntries_21 : decode Y_Mind_agreeingEntries.2.1 21 = .ok (.iload_n 3, 1) := by decide +kernel
theorem k_Mind_agreeingEntries_22 : decode Y_Mind_agreeingEntries.2.1 22 = .ok (.invokevirtual 46, 3) := by decide +kernel
theorem k_Mind_agreeingEntries_25 : decode Y_Mind_agreeingEntries.2.1 25 = .ok (.iconst 0, 1) := by decide +kernel
theorem k_Mind_agreeingEntries_26 : decode Y_Mind_agreeingEntries.2.1 26 = .ok (.istore 5, 2) := by decide +kernel
theorem k_Mind_agreeingEntries_28 : decode Y_Mind_agreeingEntries.2.1 28 = .ok (.iconst 0, 1) := by decide +kernel
theorem k_Mind_agreeingEntries_29 : decode Y_Mind_agreeingEntries.2.1 29 = .ok (.istore 6, 2) := by decide +kernel
theorem k_Mind_agreeingEntries_31 : decode Y_Mind_agreeingEntries.2.1 31 = .ok (.iload 6, 2) := by decide +kernel
theorem k_Mind_agreeingEntries_33 : decode Y_Mind_agreeingEntries.2.1 33 = .ok (.bipush 31, 2) := by decide +kernel
theorem k_Mind_agreeingEntries_35 : decode Y_Mind_agreeingEntries.2.1 35 = .ok (.if_icmp .ge 39, 3) := by decide +kernel
theorem k_Mind_agreeingEntries_38 : decode Y_Mind_agreeingEntries.2.1 38 = .ok (.aload_n 0, 1) := by decide +kernel
theorem k_Mind_agreeingEntries_39 : decode Y_Mind_agreeingEntries.2.1 39 = .ok (.getfield 12, 3) := by decide +kernel
theorem k_Mind_agreeingEntries_42 : decode Y_Mind_agreeingEntries.2.1 42 = .ok (.iload 4, 2) := by decide +kernel
theorem k_Mind_agreeingEntries_44 : decode Y_Mind_agreeingEntries.2.1 44 = .ok (.iload 6, 2) := by decide +kernel
theorem k_Mind_agreeingEntries_46 : decode Y_Mind_agreeingEntries.2.1 46 = .ok (.invokevirtual 50, 3) := by decide +kernel
theorem k_Mind_agreeingEntries_49 : decode Y_Mind_agreeingEntries.2.1 49 = .ok (.aload_n 0, 1) := by decide +kernel
theorem k_Mind_agreeingEntries_50 : decode Y_Mind_agreeingEntries.2.1 50 = .ok (.getfield 12, 3) := by decide +kernel
theorem k_Mind_agreeingEntries_53 : decode Y_Mind_agreeingEntries.2.1 53 = .ok (.invokevirtual 54, 3) := by decide +kernel
theorem k_Mind_agreeingEntries_56 : decode Y_Mind_agreeingEntries.2.1 56 = .ok (.ifCond .eq 12, 3) := by decide +kernel
theorem k_Mind_agreeingEntries_59 : decode Y_Mind_agreeingEntries.2.1 59 = .ok (.iload 5, 2) := by decide +kernel
theorem k_Mind_agreeingEntries_61 : decode Y_Mind_agreeingEntries.2.1 61 = .ok (.iconst 1, 1) := by decide +kernel
theorem k_Mind_agreeingEntries_62 : decode Y_Mind_agreeingEntries.2.1 62 = .ok (.iload 6, 2) := by decide +kernel
theorem k_Mind_agreeingEntries_64 : decode Y_Mind_agreeingEntries.2.1 64 = .ok (.ishl, 1) := by decide +kernel
theorem k_Mind_agreeingEntries_65 : decode Y_Mind_agreeingEntries.2.1 65 = .ok (.ior, 1) := by decide +kernel
theorem k_Mind_agreeingEntries_66 : decode Y_Mind_agreeingEntries.2.1 66 = .ok (.istore 5, 2) := by decide +kernel
theorem k_Mind_agreeingEntries_68 : decode Y_Mind_agreeingEntries.2.1 68 = .ok (.iinc 6 1, 3) := by decide +kernel
theorem k_Mind_agreeingEntries_71 : decode Y_Mind_agreeingEntries.2.1 71 = .ok (.goto (-40), 3) := by decide +kernel
theorem k_Mind_agreeingEntries_74 : decode Y_Mind_agreeingEntries.2.1 74 = .ok (.iload 5, 2) := by decide +kernel
theorem k_Mind_agreeingEntries_76 : decode Y_Mind_agreeingEntries.2.1 76 = .ok (.ireturn, 1) := by decide +kernel
theorem k_Mind_addablePitches_0 : decode Y_Mind_addablePitches.2.1 0 = .ok (.aload_n 0, 1) := by decide +kernel
theorem k_Mind_addablePitches_1 : decode Y_Mind_addablePitches.2.1 1 = .ok (.aload_n 1, 1) := by decide +kernel
theorem k_Mind_addablePitches_2 : decode Y_Mind_addablePitches.2.1 2 = .ok (.invokevirtual 38, 3) := by decide +kernel
theorem k_Mind_addablePitches_5 : decode Y_Mind_addablePitches.2.1 5 = .ok (.pop, 1) := by decide +kernel
theorem k_Mind_addablePitches_6 : decode Y_Mind_addablePitches.2.1 6 = .ok (.aload_n 0, 1) := by decide +kernel
theorem k_Mind_addablePitches_7 : decode Y_Mind_addablePitches.2.1 7 = .ok (.getfield 12, 3) := by decide +kernel
theorem k_Mind_addablePitches_10 : decode Y_Mind_addablePitches.2.1 10 = .ok (.getfield 58, 3) := by decide +kernel
theorem k_Mind_addablePitches_13 : decode Y_Mind_addablePitches.2.1 13 = .ok (.invokevirtual 62, 3) := by decide +kernel
theorem k_Mind_addablePitches_16 : decode Y_Mind_addablePitches.2.1 16 = .ok (.istore_n 2, 1) := by decide +kernel
theorem k_Mind_addablePitches_17 : decode Y_Mind_addablePitches.2.1 17 = .ok (.aload_n 0, 1) := by decide +kernel
theorem k_Mind_addablePitches_18 : decode Y_Mind_addablePitches.2.1 18 = .ok (.getfield 12, 3) := by decide +kernel
theorem k_Mind_addablePitches_21 : decode Y_Mind_addablePitches.2.1 21 = .ok (.getfield 58, 3) := by decide +kernel
theorem k_Mind_addablePitches_24 : decode Y_Mind_addablePitches.2.1 24 = .ok (.iconst 0, 1) := by decide +kernel
theorem k_Mind_addablePitches_25 : decode Y_Mind_addablePitches.2.1 25 = .ok (.iconst 1, 1) := by decide +kernel
theorem k_Mind_addablePitches_26 : decode Y_Mind_addablePitches.2.1 26 = .ok (.invokevirtual 67, 3) := by decide +kernel
theorem k_Mind_addablePitches_29 : decode Y_Mind_addablePitches.2.1 29 = .ok (.aload_n 0, 1) := by decide +kernel
theorem k_Mind_addablePitches_30 : decode Y_Mind_addablePitches.2.1 30 = .ok (.getfield 21, 3) := by decide +kernel
theorem k_Mind_addablePitches_33 : decode Y_Mind_addablePitches.2.1 33 = .ok (.aload_n 0, 1) := by decide +kernel
theorem k_Mind_addablePitches_34 : decode Y_Mind_addablePitches.2.1 34 = .ok (.getfield 12, 3) := by decide +kernel
theorem k_Mind_addablePitches_37 : decode Y_Mind_addablePitches.2.1 37 = .ok (.invokevirtual 70, 3) := by decide +kernel
theorem k_Mind_addablePitches_40 : decode Y_Mind_addablePitches.2.1 40 = .ok (.iconst 0, 1) := by decide +kernel
theorem k_Mind_addablePitches_41 : decode Y_Mind_addablePitches.2.1 41 = .ok (.istore_n 3, 1) := by decide +kernel
theorem k_Mind_addablePitches_42 : decode Y_Mind_addablePitches.2.1 42 = .ok (.iconst 0, 1) := by decide +kernel
theorem k_Mind_addablePitches_43 : decode Y_Mind_addablePitches.2.1 43 = .ok (.istore 4, 2) := by decide +kernel
theorem k_Mind_addablePitches_45 : decode Y_Mind_addablePitches.2.1 45 = .ok (.iload 4, 2) := by decide +kernel
theorem k_Mind_addablePitches_47 : decode Y_Mind_addablePitches.2.1 47 = .ok (.bipush 9, 2) := by decide +kernel
theorem k_Mind_addablePitches_49 : decode Y_Mind_addablePitches.2.1 49 = .ok (.if_icmp .gt 43, 3) := by decide +kernel
theorem k_Mind_addablePitches_52 : decode Y_Mind_addablePitches.2.1 52 = .ok (.aload_n 0, 1) := by decide +kernel
theorem k_Mind_addablePitches_53 : decode Y_Mind_addablePitches.2.1 53 = .ok (.getfield 12, 3) := by decide +kernel
theorem k_Mind_addablePitches_56 : decode Y_Mind_addablePitches.2.1 56 = .ok (.getfield 58, 3) := by decide +kernel
theorem k_Mind_addablePitches_59 : decode Y_Mind_addablePitches.2.1 59 = .ok (.iload_n 2, 1) := by decide +kernel
theorem k_Mind_addablePitches_60 : decode Y_Mind_addablePitches.2.1 60 = .ok (.iload 4, 2) := by decide +kernel
theorem k_Mind_addablePitches_62 : decode Y_Mind_addablePitches.2.1 62 = .ok (.invokevirtual 73, 3) := by decide +kernel
theorem k_Mind_addablePitches_65 : decode Y_Mind_addablePitches.2.1 65 = .ok (.aload_n 0, 1) := by decide +kernel
theorem k_Mind_addablePitches_66 : decode Y_Mind_addablePitches.2.1 66 = .ok (.getfield 21, 3) := by decide +kernel
theorem k_Mind_addablePitches_69 : decode Y_Mind_addablePitches.2.1 69 = .ok (.aload_n 0, 1) := by decide +kernel
theorem k_Mind_addablePitches_70 : decode Y_Mind_addablePitches.2.1 70 = .ok (.getfield 12, 3) := by decide +kernel
theorem k_Mind_addablePitches_73 : decode Y_Mind_addablePitches.2.1 73 = .ok (.invokevirtual 76, 3) := by decide +kernel
theorem k_Mind_addablePitches_76 : decode Y_Mind_addablePitches.2.1 76 = .ok (.ifCond .eq 10, 3) := by decide +kernel
theorem k_Mind_addablePitches_79 : decode Y_Mind_addablePitches.2.1 79 = .ok (.iload_n 3, 1) := by decide +kernel
theorem k_Mind_addablePitches_80 : decode Y_Mind_addablePitches.2.1 80 = .ok (.iconst 1, 1) := by decide +kernel
theorem k_Mind_addablePitches_81 : decode Y_Mind_addablePitches.2.1 81 = .ok (.iload 4, 2) := by decide +kernel
theorem k_Mind_addablePitches_83 : decode Y_Mind_addablePitches.2.1 83 = .ok (.ishl, 1) := by decide +kernel
theorem k_Mind_addablePitches_84 : decode Y_Mind_addablePitches.2.1 84 = .ok (.ior, 1) := by decide +kernel
theorem k_Mind_addablePitches_85 : decode Y_Mind_addablePitches.2.1 85 = .ok (.istore_n 3, 1) := by decide +kernel
theorem k_Mind_addablePitches_86 : decode Y_Mind_addablePitches.2.1 86 = .ok (.iinc 4 1, 3) := by decide +kernel
theorem k_Mind_addablePitches_89 : decode Y_Mind_addablePitches.2.1 89 = .ok (.goto (-44), 3) := by decide +kernel
theorem k_Mind_addablePitches_92 : decode Y_Mind_addablePitches.2.1 92 = .ok (.iload_n 3, 1) := by decide +kernel
theorem k_Mind_addablePitches_93 : decode Y_Mind_addablePitches.2.1 93 = .ok (.ireturn, 1) := by decide +kernel
theorem k_Mind_leastIlls_0 : decode Y_Mind_leastIlls.2.1 0 = .ok (.aload_n 0, 1) := by decide +kernel
theorem k_Mind_leastIlls_1 : decode Y_Mind_leastIlls.2.1 1 = .ok (.aload_n 1, 1) := by decide +kernel
theorem k_Mind_leastIlls_2 : decode Y_Mind_leastIlls.2.1 2 = .ok (.invokevirtual 38, 3) := by decide +kernel
theorem k_Mind_leastIlls_5 : decode Y_Mind_leastIlls.2.1 5 = .ok (.pop, 1) := by decide +kernel
theorem k_Mind_leastIlls_6 : decode Y_Mind_leastIlls.2.1 6 = .ok (.aload_n 0, 1) := by decide +kernel
theorem k_Mind_leastIlls_7 : decode Y_Mind_leastIlls.2.1 7 = .ok (.getfield 21, 3) := by decide +kernel
theorem k_Mind_leastIlls_10 : decode Y_Mind_leastIlls.2.1 10 = .ok (.aload_n 0, 1) := by decide +kernel
theorem k_Mind_leastIlls_11 : decode Y_Mind_leastIlls.2.1 11 = .ok (.getfield 12, 3) := by decide +kernel
theorem k_Mind_leastIlls_14 : decode Y_Mind_leastIlls.2.1 14 = .ok (.invokevirtual 70, 3) := by decide +kernel
theorem k_Mind_leastIlls_17 : decode Y_Mind_leastIlls.2.1 17 = .ok (.aload_n 0, 1) := by decide +kernel
theorem k_Mind_leastIlls_18 : decode Y_Mind_leastIlls.2.1 18 = .ok (.getfield 21, 3) := by decide +kernel
theorem k_Mind_leastIlls_21 : decode Y_Mind_leastIlls.2.1 21 = .ok (.aload_n 0, 1) := by decide +kernel
theorem k_Mind_leastIlls_22 : decode Y_Mind_leastIlls.2.1 22 = .ok (.getfield 12, 3) := by decide +kernel
theorem k_Mind_leastIlls_25 : decode Y_Mind_leastIlls.2.1 25 = .ok (.invokevirtual 80, 3) := by decide +kernel
theorem k_Mind_leastIlls_28 : decode Y_Mind_leastIlls.2.1 28 = .ok (.istore_n 2, 1) := by decide +kernel
theorem k_Mind_leastIlls_29 : decode Y_Mind_leastIlls.2.1 29 = .ok (.iconst 0, 1) := by decide +kernel
theorem k_Mind_leastIlls_30 : decode Y_Mind_leastIlls.2.1 30 = .ok (.istore_n 3, 1) := by decide +kernel
theorem k_Mind_leastIlls_31 : decode Y_Mind_leastIlls.2.1 31 = .ok (.iload_n 3, 1) := by decide +kernel
theorem k_Mind_leastIlls_32 : decode Y_Mind_leastIlls.2.1 32 = .ok (.aload_n 0, 1) := by decide +kernel
theorem k_Mind_leastIlls_33 : decode Y_Mind_leastIlls.2.1 33 = .ok (.getfield 12, 3) := by decide +kernel
theorem k_Mind_leastIlls_36 : decode Y_Mind_leastIlls.2.1 36 = .ok (.getfield 58, 3) := by decide +kernel
theorem k_Mind_leastIlls_39 : decode Y_Mind_leastIlls.2.1 39 = .ok (.invokevirtual 62, 3) := by decide +kernel
theorem k_Mind_leastIlls_42 : decode Y_Mind_leastIlls.2.1 42 = .ok (.if_icmp .ge 80, 3) := by decide +kernel
theorem k_Mind_leastIlls_45 : decode Y_Mind_leastIlls.2.1 45 = .ok (.aload_n 0, 1) := by decide +kernel
theorem k_Mind_leastIlls_46 : decode Y_Mind_leastIlls.2.1 46 = .ok (.getfield 12, 3) := by decide +kernel
theorem k_Mind_leastIlls_49 : decode Y_Mind_leastIlls.2.1 49 = .ok (.getfield 58, 3) := by decide +kernel
theorem k_Mind_leastIlls_52 : decode Y_Mind_leastIlls.2.1 52 = .ok (.iload_n 3, 1) := by decide +kernel
theorem k_Mind_leastIlls_53 : decode Y_Mind_leastIlls.2.1 53 = .ok (.invokevirtual 84, 3) := by decide +kernel
theorem k_Mind_leastIlls_56 : decode Y_Mind_leastIlls.2.1 56 = .ok (.istore 4, 2) := by decide +kernel
theorem k_Mind_leastIlls_58 : decode Y_Mind_leastIlls.2.1 58 = .ok (.iconst 0, 1) := by decide +kernel
theorem k_Mind_leastIlls_59 : decode Y_Mind_leastIlls.2.1 59 = .ok (.istore 5, 2) := by decide +kernel
theorem k_Mind_leastIlls_61 : decode Y_Mind_leastIlls.2.1 61 = .ok (.iload 5, 2) := by decide +kernel
theorem k_Mind_leastIlls_63 : decode Y_Mind_leastIlls.2.1 63 = .ok (.bipush 9, 2) := by decide +kernel
theorem k_Mind_leastIlls_65 : decode Y_Mind_leastIlls.2.1 65 = .ok (.if_icmp .gt 38, 3) := by decide +kernel
theorem k_Mind_leastIlls_68 : decode Y_Mind_leastIlls.2.1 68 = .ok (.aload_n 0, 1) := by decide +kernel
theorem k_Mind_leastIlls_69 : decode Y_Mind_leastIlls.2.1 69 = .ok (.getfield 12, 3) := by decide +kernel
theorem k_Mind_leastIlls_72 : decode Y_Mind_leastIlls.2.1 72 = .ok (.getfield 58, 3) := by decide +kernel
theorem k_Mind_leastIlls_75 : decode Y_Mind_leastIlls.2.1 75 = .ok (.iload_n 3, 1) := by decide +kernel
theorem k_Mind_leastIlls_76 : decode Y_Mind_leastIlls.2.1 76 = .ok (.iload 5, 2) := by decide +kernel
theorem k_Mind_leastIlls_78 : decode Y_Mind_leastIlls.2.1 78 = .ok (.invokevirtual 73, 3) := by decide +kernel
theorem k_Mind_leastIlls_81 : decode Y_Mind_leastIlls.2.1 81 = .ok (.iload_n 2, 1) := by decide +kernel
theorem k_Mind_leastIlls_82 : decode Y_Mind_leastIlls.2.1 82 = .ok (.aload_n 0, 1) := by decide +kernel
theorem k_Mind_leastIlls_83 : decode Y_Mind_leastIlls.2.1 83 = .ok (.getfield 21, 3) := by decide +kernel
theorem k_Mind_leastIlls_86 : decode Y_Mind_leastIlls.2.1 86 = .ok (.aload_n 0, 1) := by decide +kernel
theorem k_Mind_leastIlls_87 : decode Y_Mind_leastIlls.2.1 87 = .ok (.getfield 12, 3) := by decide +kernel
theorem k_Mind_leastIlls_90 : decode Y_Mind_leastIlls.2.1 90 = .ok (.invokevirtual 80, 3) := by decide +kernel
theorem k_Mind_leastIlls_93 : decode Y_Mind_leastIlls.2.1 93 = .ok (.invokestatic 88, 3) := by decide +kernel
theorem k_Mind_leastIlls_96 : decode Y_Mind_leastIlls.2.1 96 = .ok (.istore_n 2, 1) := by decide +kernel
theorem k_Mind_leastIlls_97 : decode Y_Mind_leastIlls.2.1 97 = .ok (.iinc 5 1, 3) := by decide +kernel
theorem k_Mind_leastIlls_100 : decode Y_Mind_leastIlls.2.1 100 = .ok (.goto (-39), 3) := by decide +kernel
theorem k_Mind_leastIlls_103 : decode Y_Mind_leastIlls.2.1 103 = .ok (.aload_n 0, 1) := by decide +kernel
theorem k_Mind_leastIlls_104 : decode Y_Mind_leastIlls.2.1 104 = .ok (.getfield 12, 3) := by decide +kernel
theorem k_Mind_leastIlls_107 : decode Y_Mind_leastIlls.2.1 107 = .ok (.getfield 58, 3) := by decide +kernel
theorem k_Mind_leastIlls_110 : decode Y_Mind_leastIlls.2.1 110 = .ok (.iload_n 3, 1) := by decide +kernel
theorem k_Mind_leastIlls_111 : decode Y_Mind_leastIlls.2.1 111 = .ok (.iload 4, 2) := by decide +kernel
theorem k_Mind_leastIlls_113 : decode Y_Mind_leastIlls.2.1 113 = .ok (.invokevirtual 73, 3) := by decide +kernel
theorem k_Mind_leastIlls_116 : decode Y_Mind_leastIlls.2.1 116 = .ok (.iinc 3 1, 3) := by decide +kernel
theorem k_Mind_leastIlls_119 : decode Y_Mind_leastIlls.2.1 119 = .ok (.goto (-88), 3) := by decide +kernel
theorem k_Mind_leastIlls_122 : decode Y_Mind_leastIlls.2.1 122 = .ok (.iload_n 2, 1) := by decide +kernel
theorem k_Mind_leastIlls_123 : decode Y_Mind_leastIlls.2.1 123 = .ok (.ireturn, 1) := by decide +kernel
theorem k_Mind_wellDraws_0 : decode Y_Mind_wellDraws.2.1 0 = .ok (.aload_n 0, 1) := by decide +kernel
theorem k_Mind_wellDraws_1 : decode Y_Mind_wellDraws.2.1 1 = .ok (.aload_n 1, 1) := by decide +kernel
theorem k_Mind_wellDraws_2 : decode Y_Mind_wellDraws.2.1 2 = .ok (.invokevirtual 38, 3) := by decide +kernel
theorem k_Mind_wellDraws_5 : decode Y_Mind_wellDraws.2.1 5 = .ok (.pop, 1) := by decide +kernel
theorem k_Mind_wellDraws_6 : decode Y_Mind_wellDraws.2.1 6 = .ok (.aload_n 0, 1) := by decide +kernel
theorem k_Mind_wellDraws_7 : decode Y_Mind_wellDraws.2.1 7 = .ok (.getfield 21, 3) := by decide +kernel
theorem k_Mind_wellDraws_10 : decode Y_Mind_wellDraws.2.1 10 = .ok (.aload_n 0, 1) := by decide +kernel
theorem k_Mind_wellDraws_11 : decode Y_Mind_wellDraws.2.1 11 = .ok (.getfield 12, 3) := by decide +kernel
theorem k_Mind_wellDraws_14 : decode Y_Mind_wellDraws.2.1 14 = .ok (.invokevirtual 70, 3) := by decide +kernel
theorem k_Mind_wellDraws_17 : decode Y_Mind_wellDraws.2.1 17 = .ok (.iload_n 3, 1) := by decide +kernel
theorem k_Mind_wellDraws_18 : decode Y_Mind_wellDraws.2.1 18 = .ok (.istore 4, 2) := by decide +kernel
theorem k_Mind_wellDraws_20 : decode Y_Mind_wellDraws.2.1 20 = .ok (.iconst 0, 1) := by decide +kernel
theorem k_Mind_wellDraws_21 : decode Y_Mind_wellDraws.2.1 21 = .ok (.istore 5, 2) := by decide +kernel
theorem k_Mind_wellDraws_23 : decode Y_Mind_wellDraws.2.1 23 = .ok (.iconst 0, 1) := by decide +kernel
theorem k_Mind_wellDraws_24 : decode Y_Mind_wellDraws.2.1 24 = .ok (.istore 6, 2) := by decide +kernel
theorem k_Mind_wellDraws_26 : decode Y_Mind_wellDraws.2.1 26 = .ok (.iload 6, 2) := by decide +kernel
theorem k_Mind_wellDraws_28 : decode Y_Mind_wellDraws.2.1 28 = .ok (.iload_n 2, 1) := by decide +kernel
theorem k_Mind_wellDraws_29 : decode Y_Mind_wellDraws.2.1 29 = .ok (.if_icmp .ge 84, 3) := by decide +kernel
theorem k_Mind_wellDraws_32 : decode Y_Mind_wellDraws.2.1 32 = .ok (.iconst 0, 1) := by decide +kernel
theorem k_Mind_wellDraws_33 : decode Y_Mind_wellDraws.2.1 33 = .ok (.istore 7, 2) := by decide +kernel
theorem k_Mind_wellDraws_35 : decode Y_Mind_wellDraws.2.1 35 = .ok (.iload 7, 2) := by decide +kernel
theorem k_Mind_wellDraws_37 : decode Y_Mind_wellDraws.2.1 37 = .ok (.aload_n 0, 1) := by decide +kernel
theorem k_Mind_wellDraws_38 : decode Y_Mind_wellDraws.2.1 38 = .ok (.getfield 12, 3) := by decide +kernel
theorem k_Mind_wellDraws_41 : decode Y_Mind_wellDraws.2.1 41 = .ok (.getfield 58, 3) := by decide +kernel
theorem k_Mind_wellDraws_44 : decode Y_Mind_wellDraws.2.1 44 = .ok (.invokevirtual 62, 3) := by decide +kernel
theorem k_Mind_wellDraws_47 : decode Y_Mind_wellDraws.2.1 47 = .ok (.if_icmp .ge 43, 3) := by decide +kernel
theorem k_Mind_wellDraws_50 : decode Y_Mind_wellDraws.2.1 50 = .ok (.iload 4, 2) := by decide +kernel
theorem k_Mind_wellDraws_52 : decode Y_Mind_wellDraws.2.1 52 = .ok (.ldc 94, 2) := by decide +kernel
theorem k_Mind_wellDraws_54 : decode Y_Mind_wellDraws.2.1 54 = .ok (.imul, 1) := by decide +kernel
theorem k_Mind_wellDraws_55 : decode Y_Mind_wellDraws.2.1 55 = .ok (.ldc 95, 2) := by decide +kernel
theorem k_Mind_wellDraws_57 : decode Y_Mind_wellDraws.2.1 57 = .ok (.iadd, 1) := by decide +kernel
theorem k_Mind_wellDraws_58 : decode Y_Mind_wellDraws.2.1 58 = .ok (.istore 4, 2) := by decide +kernel
theorem k_Mind_wellDraws_60 : decode Y_Mind_wellDraws.2.1 60 = .ok (.aload_n 0, 1) := by decide +kernel
theorem k_Mind_wellDraws_61 : decode Y_Mind_wellDraws.2.1 61 = .ok (.getfield 12, 3) := by decide +kernel
theorem k_Mind_wellDraws_64 : decode Y_Mind_wellDraws.2.1 64 = .ok (.getfield 58, 3) := by decide +kernel
theorem k_Mind_wellDraws_67 : decode Y_Mind_wellDraws.2.1 67 = .ok (.iload 7, 2) := by decide +kernel
theorem k_Mind_wellDraws_69 : decode Y_Mind_wellDraws.2.1 69 = .ok (.iload 4, 2) := by decide +kernel
theorem k_Mind_wellDraws_71 : decode Y_Mind_wellDraws.2.1 71 = .ok (.ldc 96, 2) := by decide +kernel
theorem k_Mind_wellDraws_73 : decode Y_Mind_wellDraws.2.1 73 = .ok (.iand, 1) := by decide +kernel
theorem k_Mind_wellDraws_74 : decode Y_Mind_wellDraws.2.1 74 = .ok (.sipush 256, 3) := by decide +kernel
theorem k_Mind_wellDraws_77 : decode Y_Mind_wellDraws.2.1 77 = .ok (.idiv, 1) := by decide +kernel
theorem k_Mind_wellDraws_78 : decode Y_Mind_wellDraws.2.1 78 = .ok (.bipush 10, 2) := by decide +kernel
theorem k_Mind_wellDraws_80 : decode Y_Mind_wellDraws.2.1 80 = .ok (.irem, 1) := by decide +kernel
theorem k_Mind_wellDraws_81 : decode Y_Mind_wellDraws.2.1 81 = .ok (.invokevirtual 73, 3) := by decide +kernel
theorem k_Mind_wellDraws_84 : decode Y_Mind_wellDraws.2.1 84 = .ok (.iinc 7 1, 3) := by decide +kernel
theorem k_Mind_wellDraws_87 : decode Y_Mind_wellDraws.2.1 87 = .ok (.goto (-52), 3) := by decide +kernel
theorem k_Mind_wellDraws_90 : decode Y_Mind_wellDraws.2.1 90 = .ok (.aload_n 0, 1) := by decide +kernel
theorem k_Mind_wellDraws_91 : decode Y_Mind_wellDraws.2.1 91 = .ok (.getfield 21, 3) := by decide +kernel
theorem k_Mind_wellDraws_94 : decode Y_Mind_wellDraws.2.1 94 = .ok (.aload_n 0, 1) := by decide +kernel
theorem k_Mind_wellDraws_95 : decode Y_Mind_wellDraws.2.1 95 = .ok (.getfield 12, 3) := by decide +kernel
theorem k_Mind_wellDraws_98 : decode Y_Mind_wellDraws.2.1 98 = .ok (.invokevirtual 76, 3) := by decide +kernel
theorem k_Mind_wellDraws_101 : decode Y_Mind_wellDraws.2.1 101 = .ok (.ifCond .eq 6, 3) := by decide +kernel
theorem k_Mind_wellDraws_104 : decode Y_Mind_wellDraws.2.1 104 = .ok (.iinc 5 1, 3) := by decide +kernel
theorem k_Mind_wellDraws_107 : decode Y_Mind_wellDraws.2.1 107 = .ok (.iinc 6 1, 3) := by decide +kernel
theorem k_Mind_wellDraws_110 : decode Y_Mind_wellDraws.2.1 110 = .ok (.goto (-84), 3) := by decide +kernel
theorem k_Mind_wellDraws_113 : decode Y_Mind_wellDraws.2.1 113 = .ok (.iload 5, 2) := by decide +kernel
theorem k_Mind_wellDraws_115 : decode Y_Mind_wellDraws.2.1 115 = .ok (.ireturn, 1) := by decide +kernel
theorem k_Mind_fewestChanges_0 : decode Y_Mind_fewestChanges.2.1 0 = .ok (.aload_n 0, 1) := by decide +kernel
theorem k_Mind_fewestChanges_1 : decode Y_Mind_fewestChanges.2.1 1 = .ok (.aload_n 1, 1) := by decide +kernel
theorem k_Mind_fewestChanges_2 : decode Y_Mind_fewestChanges.2.1 2 = .ok (.invokevirtual 38, 3) := by decide +kernel
theorem k_Mind_fewestChanges_5 : decode Y_Mind_fewestChanges.2.1 5 = .ok (.pop, 1) := by decide +kernel
theorem k_Mind_fewestChanges_6 : decode Y_Mind_fewestChanges.2.1 6 = .ok (.aload_n 0, 1) := by decide +kernel
theorem k_Mind_fewestChanges_7 : decode Y_Mind_fewestChanges.2.1 7 = .ok (.getfield 21, 3) := by decide +kernel
theorem k_Mind_fewestChanges_10 : decode Y_Mind_fewestChanges.2.1 10 = .ok (.aload_n 0, 1) := by decide +kernel
theorem k_Mind_fewestChanges_11 : decode Y_Mind_fewestChanges.2.1 11 = .ok (.getfield 12, 3) := by decide +kernel
theorem k_Mind_fewestChanges_14 : decode Y_Mind_fewestChanges.2.1 14 = .ok (.invokevirtual 70, 3) := by decide +kernel
theorem k_Mind_fewestChanges_17 : decode Y_Mind_fewestChanges.2.1 17 = .ok (.aload_n 0, 1) := by decide +kernel
theorem k_Mind_fewestChanges_18 : decode Y_Mind_fewestChanges.2.1 18 = .ok (.getfield 21, 3) := by decide +kernel
theorem k_Mind_fewestChanges_21 : decode Y_Mind_fewestChanges.2.1 21 = .ok (.aload_n 0, 1) := by decide +kernel
theorem k_Mind_fewestChanges_22 : decode Y_Mind_fewestChanges.2.1 22 = .ok (.getfield 12, 3) := by decide +kernel
theorem k_Mind_fewestChanges_25 : decode Y_Mind_fewestChanges.2.1 25 = .ok (.invokevirtual 76, 3) := by decide +kernel
theorem k_Mind_fewestChanges_28 : decode Y_Mind_fewestChanges.2.1 28 = .ok (.ifCond .eq 5, 3) := by decide +kernel
theorem k_Mind_fewestChanges_31 : decode Y_Mind_fewestChanges.2.1 31 = .ok (.iconst 0, 1) := by decide +kernel
theorem k_Mind_fewestChanges_32 : decode Y_Mind_fewestChanges.2.1 32 = .ok (.ireturn, 1) := by decide +kernel
theorem k_Mind_fewestChanges_33 : decode Y_Mind_fewestChanges.2.1 33 = .ok (.aload_n 0, 1) := by decide +kernel
theorem k_Mind_fewestChanges_34 : decode Y_Mind_fewestChanges.2.1 34 = .ok (.invokevirtual 97, 3) := by decide +kernel
theorem k_Mind_fewestChanges_37 : decode Y_Mind_fewestChanges.2.1 37 = .ok (.aload_n 0, 1) := by decide +kernel
theorem k_Mind_fewestChanges_38 : decode Y_Mind_fewestChanges.2.1 38 = .ok (.invokevirtual 100, 3) := by decide +kernel
theorem k_Mind_fewestChanges_41 : decode Y_Mind_fewestChanges.2.1 41 = .ok (.bipush (-9), 2) := by decide +kernel
theorem k_Mind_fewestChanges_43 : decode Y_Mind_fewestChanges.2.1 43 = .ok (.if_icmp .eq 5, 3) := by decide +kernel
theorem k_Mind_fewestChanges_46 : decode Y_Mind_fewestChanges.2.1 46 = .ok (.iconst 1, 1) := by decide +kernel
theorem k_Mind_fewestChanges_47 : decode Y_Mind_fewestChanges.2.1 47 = .ok (.ireturn, 1) := by decide +kernel
theorem k_Mind_fewestChanges_48 : decode Y_Mind_fewestChanges.2.1 48 = .ok (.aload_n 0, 1) := by decide +kernel
theorem k_Mind_fewestChanges_49 : decode Y_Mind_fewestChanges.2.1 49 = .ok (.invokevirtual 103, 3) := by decide +kernel
theorem k_Mind_fewestChanges_52 : decode Y_Mind_fewestChanges.2.1 52 = .ok (.ifCond .eq 7, 3) := by decide +kernel
theorem k_Mind_fewestChanges_55 : decode Y_Mind_fewestChanges.2.1 55 = .ok (.iconst 2, 1) := by decide +kernel
theorem k_Mind_fewestChanges_56 : decode Y_Mind_fewestChanges.2.1 56 = .ok (.goto 5, 3) := by decide +kernel
theorem k_Mind_fewestChanges_59 : decode Y_Mind_fewestChanges.2.1 59 = .ok (.bipush (-9), 2) := by decide +kernel
theorem k_Mind_fewestChanges_61 : decode Y_Mind_fewestChanges.2.1 61 = .ok (.ireturn, 1) := by decide +kernel
theorem k_Mind_firstChange_0 : decode Y_Mind_firstChange.2.1 0 = .ok (.aload_n 0, 1) := by decide +kernel
theorem k_Mind_firstChange_1 : decode Y_Mind_firstChange.2.1 1 = .ok (.aload_n 1, 1) := by decide +kernel
theorem k_Mind_firstChange_2 : decode Y_Mind_firstChange.2.1 2 = .ok (.invokevirtual 38, 3) := by decide +kernel
theorem k_Mind_firstChange_5 : decode Y_Mind_firstChange.2.1 5 = .ok (.pop, 1) := by decide +kernel
theorem k_Mind_firstChange_6 : decode Y_Mind_firstChange.2.1 6 = .ok (.aload_n 0, 1) := by decide +kernel
theorem k_Mind_firstChange_7 : decode Y_Mind_firstChange.2.1 7 = .ok (.getfield 21, 3) := by decide +kernel
theorem k_Mind_firstChange_10 : decode Y_Mind_firstChange.2.1 10 = .ok (.aload_n 0, 1) := by decide +kernel
theorem k_Mind_firstChange_11 : decode Y_Mind_firstChange.2.1 11 = .ok (.getfield 12, 3) := by decide +kernel
theorem k_Mind_firstChange_14 : decode Y_Mind_firstChange.2.1 14 = .ok (.invokevirtual 70, 3) := by decide +kernel
theorem k_Mind_firstChange_17 : decode Y_Mind_firstChange.2.1 17 = .ok (.aload_n 0, 1) := by decide +kernel
theorem k_Mind_firstChange_18 : decode Y_Mind_firstChange.2.1 18 = .ok (.getfield 21, 3) := by decide +kernel
theorem k_Mind_firstChange_21 : decode Y_Mind_firstChange.2.1 21 = .ok (.aload_n 0, 1) := by decide +kernel
theorem k_Mind_firstChange_22 : decode Y_Mind_firstChange.2.1 22 = .ok (.getfield 12, 3) := by decide +kernel
theorem k_Mind_firstChange_25 : decode Y_Mind_firstChange.2.1 25 = .ok (.invokevirtual 76, 3) := by decide +kernel
theorem k_Mind_firstChange_28 : decode Y_Mind_firstChange.2.1 28 = .ok (.ifCond .eq 6, 3) := by decide +kernel
theorem k_Mind_firstChange_31 : decode Y_Mind_firstChange.2.1 31 = .ok (.bipush (-9), 2) := by decide +kernel
theorem k_Mind_firstChange_33 : decode Y_Mind_firstChange.2.1 33 = .ok (.ireturn, 1) := by decide +kernel
theorem k_Mind_firstChange_34 : decode Y_Mind_firstChange.2.1 34 = .ok (.aload_n 0, 1) := by decide +kernel
theorem k_Mind_firstChange_35 : decode Y_Mind_firstChange.2.1 35 = .ok (.invokevirtual 97, 3) := by decide +kernel
theorem k_Mind_firstChange_38 : decode Y_Mind_firstChange.2.1 38 = .ok (.aload_n 0, 1) := by decide +kernel
theorem k_Mind_firstChange_39 : decode Y_Mind_firstChange.2.1 39 = .ok (.invokevirtual 100, 3) := by decide +kernel
theorem k_Mind_firstChange_42 : decode Y_Mind_firstChange.2.1 42 = .ok (.ireturn, 1) := by decide +kernel
theorem k_Mind_findMends_0 : decode Y_Mind_findMends.2.1 0 = .ok (.aload_n 0, 1) := by decide +kernel
theorem k_Mind_findMends_1 : decode Y_Mind_findMends.2.1 1 = .ok (.getfield 30, 3) := by decide +kernel
theorem k_Mind_findMends_4 : decode Y_Mind_findMends.2.1 4 = .ok (.invokevirtual 106, 3) := by decide +kernel
theorem k_Mind_findMends_7 : decode Y_Mind_findMends.2.1 7 = .ok (.iconst 0, 1) := by decide +kernel
theorem k_Mind_findMends_8 : decode Y_Mind_findMends.2.1 8 = .ok (.istore_n 1, 1) := by decide +kernel
theorem k_Mind_findMends_9 : decode Y_Mind_findMends.2.1 9 = .ok (.iload_n 1, 1) := by decide +kernel
theorem k_Mind_findMends_10 : decode Y_Mind_findMends.2.1 10 = .ok (.aload_n 0, 1) := by decide +kernel
theorem k_Mind_findMends_11 : decode Y_Mind_findMends.2.1 11 = .ok (.getfield 12, 3) := by decide +kernel
theorem k_Mind_findMends_14 : decode Y_Mind_findMends.2.1 14 = .ok (.getfield 58, 3) := by decide +kernel
theorem k_Mind_findMends_17 : decode Y_Mind_findMends.2.1 17 = .ok (.invokevirtual 62, 3) := by decide +kernel
theorem k_Mind_findMends_20 : decode Y_Mind_findMends.2.1 20 = .ok (.if_icmp .ge 19, 3) := by decide +kernel
theorem k_Mind_findMends_23 : decode Y_Mind_findMends.2.1 23 = .ok (.aload_n 0, 1) := by decide +kernel
theorem k_Mind_findMends_24 : decode Y_Mind_findMends.2.1 24 = .ok (.getfield 30, 3) := by decide +kernel
theorem k_Mind_findMends_27 : decode Y_Mind_findMends.2.1 27 = .ok (.sipush 4095, 3) := by decide +kernel
theorem k_Mind_findMends_30 : decode Y_Mind_findMends.2.1 30 = .ok (.invokevirtual 109, 3) := by decide +kernel
theorem k_Mind_findMends_33 : decode Y_Mind_findMends.2.1 33 = .ok (.iinc 1 1, 3) := by decide +kernel
theorem k_Mind_findMends_36 : decode Y_Mind_findMends.2.1 36 = .ok (.goto (-27), 3) := by decide +kernel
theorem k_Mind_findMends_39 : decode Y_Mind_findMends.2.1 39 = .ok (.iconst 0, 1) := by decide +kernel
theorem k_Mind_findMends_40 : decode Y_Mind_findMends.2.1 40 = .ok (.istore_n 1, 1) := by decide +kernel
theorem k_Mind_findMends_41 : decode Y_Mind_findMends.2.1 41 = .ok (.iload_n 1, 1) := by decide +kernel
theorem k_Mind_findMends_42 : decode Y_Mind_findMends.2.1 42 = .ok (.aload_n 0, 1) := by decide +kernel
theorem k_Mind_findMends_43 : decode Y_Mind_findMends.2.1 43 = .ok (.getfield 21, 3) := by decide +kernel
theorem k_Mind_findMends_46 : decode Y_Mind_findMends.2.1 46 = .ok (.invokevirtual 111, 3) := by decide +kernel
theorem k_Mind_findMends_49 : decode Y_Mind_findMends.2.1 49 = .ok (.if_icmp .ge 36, 3) := by decide +kernel
theorem k_Mind_findMends_52 : decode Y_Mind_findMends.2.1 52 = .ok (.aload_n 0, 1) := by decide +kernel
theorem k_Mind_findMends_53 : decode Y_Mind_findMends.2.1 53 = .ok (.getfield 21, 3) := by decide +kernel
theorem k_Mind_findMends_56 : decode Y_Mind_findMends.2.1 56 = .ok (.iload_n 1, 1) := by decide +kernel
theorem k_Mind_findMends_57 : decode Y_Mind_findMends.2.1 57 = .ok (.aload_n 0, 1) := by decide +kernel
theorem k_Mind_findMends_58 : decode Y_Mind_findMends.2.1 58 = .ok (.getfield 12, 3) := by decide +kernel
theorem k_Mind_findMends_61 : decode Y_Mind_findMends.2.1 61 = .ok (.invokevirtual 114, 3) := by decide +kernel
theorem k_Mind_findMends_64 : decode Y_Mind_findMends.2.1 64 = .ok (.ifCond .eq 15, 3) := by decide +kernel
theorem k_Mind_findMends_67 : decode Y_Mind_findMends.2.1 67 = .ok (.aload_n 0, 1) := by decide +kernel
theorem k_Mind_findMends_68 : decode Y_Mind_findMends.2.1 68 = .ok (.aload_n 0, 1) := by decide +kernel
theorem k_Mind_findMends_69 : decode Y_Mind_findMends.2.1 69 = .ok (.getfield 21, 3) := by decide +kernel
theorem k_Mind_findMends_72 : decode Y_Mind_findMends.2.1 72 = .ok (.iload_n 1, 1) := by decide +kernel
theorem k_Mind_findMends_73 : decode Y_Mind_findMends.2.1 73 = .ok (.invokevirtual 118, 3) := by decide +kernel
theorem k_Mind_findMends_76 : decode Y_Mind_findMends.2.1 76 = .ok (.invokevirtual 121, 3) := by decide +kernel
theorem k_Mind_findMends_79 : decode Y_Mind_findMends.2.1 79 = .ok (.iinc 1 1, 3) := by decide +kernel
theorem k_Mind_findMends_82 : decode Y_Mind_findMends.2.1 82 = .ok (.goto (-41), 3) := by decide +kernel
theorem k_Mind_findMends_85 : decode Y_Mind_findMends.2.1 85 = .ok (.return_, 1) := by decide +kernel
theorem k_Mind_keepMends_0 : decode Y_Mind_keepMends.2.1 0 = .ok (.iconst 0, 1) := by decide +kernel
theorem k_Mind_keepMends_1 : decode Y_Mind_keepMends.2.1 1 = .ok (.istore_n 2, 1) := by decide +kernel
theorem k_Mind_keepMends_2 : decode Y_Mind_keepMends.2.1 2 = .ok (.iload_n 2, 1) := by decide +kernel
theorem k_Mind_keepMends_3 : decode Y_Mind_keepMends.2.1 3 = .ok (.aload_n 0, 1) := by decide +kernel
theorem k_Mind_keepMends_4 : decode Y_Mind_keepMends.2.1 4 = .ok (.getfield 30, 3) := by decide +kernel
theorem k_Mind_keepMends_7 : decode Y_Mind_keepMends.2.1 7 = .ok (.invokevirtual 124, 3) := by decide +kernel
theorem k_Mind_keepMends_10 : decode Y_Mind_keepMends.2.1 10 = .ok (.if_icmp .ge 35, 3) := by decide +kernel
theorem k_Mind_keepMends_13 : decode Y_Mind_keepMends.2.1 13 = .ok (.iload_n 1, 1) := by decide +kernel
theorem k_Mind_keepMends_14 : decode Y_Mind_keepMends.2.1 14 = .ok (.iload_n 2, 1) := by decide +kernel
theorem k_Mind_keepMends_15 : decode Y_Mind_keepMends.2.1 15 = .ok (.ishr, 1) := by decide +kernel
theorem k_Mind_keepMends_16 : decode Y_Mind_keepMends.2.1 16 = .ok (.iconst 1, 1) := by decide +kernel
theorem k_Mind_keepMends_17 : decode Y_Mind_keepMends.2.1 17 = .ok (.iand, 1) := by decide +kernel
theorem k_Mind_keepMends_18 : decode Y_Mind_keepMends.2.1 18 = .ok (.ifCond .ne 21, 3) := by decide +kernel
theorem k_Mind_keepMends_21 : decode Y_Mind_keepMends.2.1 21 = .ok (.aload_n 0, 1) := by decide +kernel
theorem k_Mind_keepMends_22 : decode Y_Mind_keepMends.2.1 22 = .ok (.getfield 30, 3) := by decide +kernel
theorem k_Mind_keepMends_25 : decode Y_Mind_keepMends.2.1 25 = .ok (.iload_n 2, 1) := by decide +kernel
theorem k_Mind_keepMends_26 : decode Y_Mind_keepMends.2.1 26 = .ok (.aload_n 0, 1) := by decide +kernel
theorem k_Mind_keepMends_27 : decode Y_Mind_keepMends.2.1 27 = .ok (.getfield 30, 3) := by decide +kernel
theorem k_Mind_keepMends_30 : decode Y_Mind_keepMends.2.1 30 = .ok (.iload_n 2, 1) := by decide +kernel
theorem k_Mind_keepMends_31 : decode Y_Mind_keepMends.2.1 31 = .ok (.invokevirtual 125, 3) := by decide +kernel
theorem k_Mind_keepMends_34 : decode Y_Mind_keepMends.2.1 34 = .ok (.iload_n 1, 1) := by decide +kernel
theorem k_Mind_keepMends_35 : decode Y_Mind_keepMends.2.1 35 = .ok (.iand, 1) := by decide +kernel
theorem k_Mind_keepMends_36 : decode Y_Mind_keepMends.2.1 36 = .ok (.invokevirtual 128, 3) := by decide +kernel
theorem k_Mind_keepMends_39 : decode Y_Mind_keepMends.2.1 39 = .ok (.iinc 2 1, 3) := by decide +kernel
theorem k_Mind_keepMends_42 : decode Y_Mind_keepMends.2.1 42 = .ok (.goto (-40), 3) := by decide +kernel
theorem k_Mind_keepMends_45 : decode Y_Mind_keepMends.2.1 45 = .ok (.return_, 1) := by decide +kernel
theorem k_Mind_canMend_0 : decode Y_Mind_canMend.2.1 0 = .ok (.aload_n 0, 1) := by decide +kernel
theorem k_Mind_canMend_1 : decode Y_Mind_canMend.2.1 1 = .ok (.getfield 30, 3) := by decide +kernel
theorem k_Mind_canMend_4 : decode Y_Mind_canMend.2.1 4 = .ok (.iload_n 1, 1) := by decide +kernel
theorem k_Mind_canMend_5 : decode Y_Mind_canMend.2.1 5 = .ok (.invokevirtual 125, 3) := by decide +kernel
theorem k_Mind_canMend_8 : decode Y_Mind_canMend.2.1 8 = .ok (.iload_n 2, 1) := by decide +kernel
theorem k_Mind_canMend_9 : decode Y_Mind_canMend.2.1 9 = .ok (.ishr, 1) := by decide +kernel
theorem k_Mind_canMend_10 : decode Y_Mind_canMend.2.1 10 = .ok (.iconst 1, 1) := by decide +kernel
theorem k_Mind_canMend_11 : decode Y_Mind_canMend.2.1 11 = .ok (.iand, 1) := by decide +kernel
theorem k_Mind_canMend_12 : decode Y_Mind_canMend.2.1 12 = .ok (.iconst 1, 1) := by decide +kernel
theorem k_Mind_canMend_13 : decode Y_Mind_canMend.2.1 13 = .ok (.if_icmp .ne 7, 3) := by decide +kernel
theorem k_Mind_canMend_16 : decode Y_Mind_canMend.2.1 16 = .ok (.iconst 1, 1) := by decide +kernel
theorem k_Mind_canMend_17 : decode Y_Mind_canMend.2.1 17 = .ok (.goto 4, 3) := by decide +kernel
theorem k_Mind_canMend_20 : decode Y_Mind_canMend.2.1 20 = .ok (.iconst 0, 1) := by decide +kernel
theorem k_Mind_canMend_21 : decode Y_Mind_canMend.2.1 21 = .ok (.ireturn, 1) := by decide +kernel
theorem k_Mind_mendingPitch_0 : decode Y_Mind_mendingPitch.2.1 0 = .ok (.aload_n 0, 1) := by decide +kernel
theorem k_Mind_mendingPitch_1 : decode Y_Mind_mendingPitch.2.1 1 = .ok (.getfield 12, 3) := by decide +kernel
theorem k_Mind_mendingPitch_4 : decode Y_Mind_mendingPitch.2.1 4 = .ok (.getfield 58, 3) := by decide +kernel
theorem k_Mind_mendingPitch_7 : decode Y_Mind_mendingPitch.2.1 7 = .ok (.iload_n 1, 1) := by decide +kernel
theorem k_Mind_mendingPitch_8 : decode Y_Mind_mendingPitch.2.1 8 = .ok (.invokevirtual 84, 3) := by decide +kernel
theorem k_Mind_mendingPitch_11 : decode Y_Mind_mendingPitch.2.1 11 = .ok (.istore_n 2, 1) := by decide +kernel
theorem k_Mind_mendingPitch_12 : decode Y_Mind_mendingPitch.2.1 12 = .ok (.bipush (-9), 2) := by decide +kernel
theorem k_Mind_mendingPitch_14 : decode Y_Mind_mendingPitch.2.1 14 = .ok (.istore_n 3, 1) := by decide +kernel
theorem k_Mind_mendingPitch_15 : decode Y_Mind_mendingPitch.2.1 15 = .ok (.iconst 0, 1) := by decide +kernel
theorem k_Mind_mendingPitch_16 : decode Y_Mind_mendingPitch.2.1 16 = .ok (.istore 4, 2) := by decide +kernel
theorem k_Mind_mendingPitch_18 : decode Y_Mind_mendingPitch.2.1 18 = .ok (.iload 4, 2) := by decide +kernel
theorem k_Mind_mendingPitch_20 : decode Y_Mind_mendingPitch.2.1 20 = .ok (.bipush 9, 2) := by decide +kernel
theorem k_Mind_mendingPitch_22 : decode Y_Mind_mendingPitch.2.1 22 = .ok (.if_icmp .gt 45, 3) := by decide +kernel
theorem k_Mind_mendingPitch_25 : decode Y_Mind_mendingPitch.2.1 25 = .ok (.iload_n 3, 1) := by decide +kernel
theorem k_Mind_mendingPitch_26 : decode Y_Mind_mendingPitch.2.1 26 = .ok (.bipush (-9), 2) := by decide +kernel
theorem k_Mind_mendingPitch_28 : decode Y_Mind_mendingPitch.2.1 28 = .ok (.if_icmp .ne 39, 3) := by decide +kernel
theorem k_Mind_mendingPitch_31 : decode Y_Mind_mendingPitch.2.1 31 = .ok (.aload_n 0, 1) := by decide +kernel
theorem k_Mind_mendingPitch_32 : decode Y_Mind_mendingPitch.2.1 32 = .ok (.getfield 12, 3) := by decide +kernel
theorem k_Mind_mendingPitch_35 : decode Y_Mind_mendingPitch.2.1 35 = .ok (.getfield 58, 3) := by decide +kernel
theorem k_Mind_mendingPitch_38 : decode Y_Mind_mendingPitch.2.1 38 = .ok (.iload_n 1, 1) := by decide +kernel
theorem k_Mind_mendingPitch_39 : decode Y_Mind_mendingPitch.2.1 39 = .ok (.iload 4, 2) := by decide +kernel
theorem k_Mind_mendingPitch_41 : decode Y_Mind_mendingPitch.2.1 41 = .ok (.invokevirtual 73, 3) := by decide +kernel
theorem k_Mind_mendingPitch_44 : decode Y_Mind_mendingPitch.2.1 44 = .ok (.aload_n 0, 1) := by decide +kernel
theorem k_Mind_mendingPitch_45 : decode Y_Mind_mendingPitch.2.1 45 = .ok (.getfield 21, 3) := by decide +kernel
theorem k_Mind_mendingPitch_48 : decode Y_Mind_mendingPitch.2.1 48 = .ok (.aload_n 0, 1) := by decide +kernel
theorem k_Mind_mendingPitch_49 : decode Y_Mind_mendingPitch.2.1 49 = .ok (.getfield 12, 3) := by decide +kernel
theorem k_Mind_mendingPitch_52 : decode Y_Mind_mendingPitch.2.1 52 = .ok (.invokevirtual 76, 3) := by decide +kernel
theorem k_Mind_mendingPitch_55 : decode Y_Mind_mendingPitch.2.1 55 = .ok (.ifCond .eq 6, 3) := by decide +kernel
theorem k_Mind_mendingPitch_58 : decode Y_Mind_mendingPitch.2.1 58 = .ok (.iload 4, 2) := by decide +kernel
theorem k_Mind_mendingPitch_60 : decode Y_Mind_mendingPitch.2.1 60 = .ok (.istore_n 3, 1) := by decide +kernel
theorem k_Mind_mendingPitch_61 : decode Y_Mind_mendingPitch.2.1 61 = .ok (.iinc 4 1, 3) := by decide +kernel
theorem k_Mind_mendingPitch_64 : decode Y_Mind_mendingPitch.2.1 64 = .ok (.goto (-46), 3) := by decide +kernel
theorem k_Mind_mendingPitch_67 : decode Y_Mind_mendingPitch.2.1 67 = .ok (.aload_n 0, 1) := by decide +kernel
theorem k_Mind_mendingPitch_68 : decode Y_Mind_mendingPitch.2.1 68 = .ok (.getfield 12, 3) := by decide +kernel
theorem k_Mind_mendingPitch_71 : decode Y_Mind_mendingPitch.2.1 71 = .ok (.getfield 58, 3) := by decide +kernel
theorem k_Mind_mendingPitch_74 : decode Y_Mind_mendingPitch.2.1 74 = .ok (.iload_n 1, 1) := by decide +kernel
theorem k_Mind_mendingPitch_75 : decode Y_Mind_mendingPitch.2.1 75 = .ok (.iload_n 2, 1) := by decide +kernel
theorem k_Mind_mendingPitch_76 : decode Y_Mind_mendingPitch.2.1 76 = .ok (.invokevirtual 73, 3) := by decide +kernel
theorem k_Mind_mendingPitch_79 : decode Y_Mind_mendingPitch.2.1 79 = .ok (.iload_n 3, 1) := by decide +kernel
theorem k_Mind_mendingPitch_80 : decode Y_Mind_mendingPitch.2.1 80 = .ok (.ireturn, 1) := by decide +kernel
theorem k_Mind_firstSingle_0 : decode Y_Mind_firstSingle.2.1 0 = .ok (.iconst 0, 1) := by decide +kernel
theorem k_Mind_firstSingle_1 : decode Y_Mind_firstSingle.2.1 1 = .ok (.istore_n 1, 1) := by decide +kernel
theorem k_Mind_firstSingle_2 : decode Y_Mind_firstSingle.2.1 2 = .ok (.iload_n 1, 1) := by decide +kernel
theorem k_Mind_firstSingle_3 : decode Y_Mind_firstSingle.2.1 3 = .ok (.aload_n 0, 1) := by decide +kernel
theorem k_Mind_firstSingle_4 : decode Y_Mind_firstSingle.2.1 4 = .ok (.getfield 12, 3) := by decide +kernel
theorem k_Mind_firstSingle_7 : decode Y_Mind_firstSingle.2.1 7 = .ok (.getfield 58, 3) := by decide +kernel
theorem k_Mind_firstSingle_10 : decode Y_Mind_firstSingle.2.1 10 = .ok (.invokevirtual 62, 3) := by decide +kernel
theorem k_Mind_firstSingle_13 : decode Y_Mind_firstSingle.2.1 13 = .ok (.if_icmp .ge 42, 3) := by decide +kernel
theorem k_Mind_firstSingle_16 : decode Y_Mind_firstSingle.2.1 16 = .ok (.aload_n 0, 1) := by decide +kernel
theorem k_Mind_firstSingle_17 : decode Y_Mind_firstSingle.2.1 17 = .ok (.iload_n 1, 1) := by decide +kernel
theorem k_Mind_firstSingle_18 : decode Y_Mind_firstSingle.2.1 18 = .ok (.iload_n 1, 1) := by decide +kernel
theorem k_Mind_firstSingle_19 : decode Y_Mind_firstSingle.2.1 19 = .ok (.invokevirtual 131, 3) := by decide +kernel
theorem k_Mind_firstSingle_22 : decode Y_Mind_firstSingle.2.1 22 = .ok (.ifCond .eq 11, 3) := by decide +kernel
theorem k_Mind_firstSingle_25 : decode Y_Mind_firstSingle.2.1 25 = .ok (.aload_n 0, 1) := by decide +kernel
theorem k_Mind_firstSingle_26 : decode Y_Mind_firstSingle.2.1 26 = .ok (.iload_n 1, 1) := by decide +kernel
theorem k_Mind_firstSingle_27 : decode Y_Mind_firstSingle.2.1 27 = .ok (.invokevirtual 135, 3) := by decide +kernel
theorem k_Mind_firstSingle_30 : decode Y_Mind_firstSingle.2.1 30 = .ok (.goto 5, 3) := by decide +kernel
theorem k_Mind_firstSingle_33 : decode Y_Mind_firstSingle.2.1 33 = .ok (.bipush (-9), 2) := by decide +kernel
theorem k_Mind_firstSingle_35 : decode Y_Mind_firstSingle.2.1 35 = .ok (.istore_n 2, 1) := by decide +kernel
theorem k_Mind_firstSingle_36 : decode Y_Mind_firstSingle.2.1 36 = .ok (.iload_n 2, 1) := by decide +kernel
theorem k_Mind_firstSingle_37 : decode Y_Mind_firstSingle.2.1 37 = .ok (.bipush (-9), 2) := by decide +kernel
theorem k_Mind_firstSingle_39 : decode Y_Mind_firstSingle.2.1 39 = .ok (.if_icmp .eq 10, 3) := by decide +kernel
theorem k_Mind_firstSingle_42 : decode Y_Mind_firstSingle.2.1 42 = .ok (.bipush 10, 2) := by decide +kernel
theorem k_Mind_firstSingle_44 : decode Y_Mind_firstSingle.2.1 44 = .ok (.iload_n 1, 1) := by decide +kernel
theorem k_Mind_firstSingle_45 : decode Y_Mind_firstSingle.2.1 45 = .ok (.imul, 1) := by decide +kernel
theorem k_Mind_firstSingle_46 : decode Y_Mind_firstSingle.2.1 46 = .ok (.iload_n 2, 1) := by decide +kernel
theorem k_Mind_firstSingle_47 : decode Y_Mind_firstSingle.2.1 47 = .ok (.iadd, 1) := by decide +kernel
theorem k_Mind_firstSingle_48 : decode Y_Mind_firstSingle.2.1 48 = .ok (.ireturn, 1) := by decide +kernel
theorem k_Mind_firstSingle_49 : decode Y_Mind_firstSingle.2.1 49 = .ok (.iinc 1 1, 3) := by decide +kernel
theorem k_Mind_firstSingle_52 : decode Y_Mind_firstSingle.2.1 52 = .ok (.goto (-50), 3) := by decide +kernel
theorem k_Mind_firstSingle_55 : decode Y_Mind_firstSingle.2.1 55 = .ok (.bipush (-9), 2) := by decide +kernel
theorem k_Mind_firstSingle_57 : decode Y_Mind_firstSingle.2.1 57 = .ok (.ireturn, 1) := by decide +kernel
theorem k_Mind_hasPair_0 : decode Y_Mind_hasPair.2.1 0 = .ok (.iconst 0, 1) := by decide +kernel
theorem k_Mind_hasPair_1 : decode Y_Mind_hasPair.2.1 1 = .ok (.istore_n 1, 1) := by decide +kernel
theorem k_Mind_hasPair_2 : decode Y_Mind_hasPair.2.1 2 = .ok (.iload_n 1, 1) := by decide +kernel
theorem k_Mind_hasPair_3 : decode Y_Mind_hasPair.2.1 3 = .ok (.aload_n 0, 1) := by decide +kernel
theorem k_Mind_hasPair_4 : decode Y_Mind_hasPair.2.1 4 = .ok (.getfield 12, 3) := by decide +kernel
theorem k_Mind_hasPair_7 : decode Y_Mind_hasPair.2.1 7 = .ok (.getfield 58, 3) := by decide +kernel
theorem k_Mind_hasPair_10 : decode Y_Mind_hasPair.2.1 10 = .ok (.invokevirtual 62, 3) := by decide +kernel
theorem k_Mind_hasPair_13 : decode Y_Mind_hasPair.2.1 13 = .ok (.if_icmp .ge 108, 3) := by decide +kernel
theorem k_Mind_hasPair_16 : decode Y_Mind_hasPair.2.1 16 = .ok (.aload_n 0, 1) := by decide +kernel
theorem k_Mind_hasPair_17 : decode Y_Mind_hasPair.2.1 17 = .ok (.getfield 12, 3) := by decide +kernel
theorem k_Mind_hasPair_20 : decode Y_Mind_hasPair.2.1 20 = .ok (.getfield 58, 3) := by decide +kernel
theorem k_Mind_hasPair_23 : decode Y_Mind_hasPair.2.1 23 = .ok (.iload_n 1, 1) := by decide +kernel
theorem k_Mind_hasPair_24 : decode Y_Mind_hasPair.2.1 24 = .ok (.invokevirtual 84, 3) := by decide +kernel
theorem k_Mind_hasPair_27 : decode Y_Mind_hasPair.2.1 27 = .ok (.istore_n 2, 1) := by decide +kernel
theorem k_Mind_hasPair_28 : decode Y_Mind_hasPair.2.1 28 = .ok (.iconst 0, 1) := by decide +kernel
theorem k_Mind_hasPair_29 : decode Y_Mind_hasPair.2.1 29 = .ok (.istore_n 3, 1) := by decide +kernel
theorem k_Mind_hasPair_30 : decode Y_Mind_hasPair.2.1 30 = .ok (.iload_n 3, 1) := by decide +kernel
theorem k_Mind_hasPair_31 : decode Y_Mind_hasPair.2.1 31 = .ok (.bipush 9, 2) := by decide +kernel
theorem k_Mind_hasPair_33 : decode Y_Mind_hasPair.2.1 33 = .ok (.if_icmp .gt 70, 3) := by decide +kernel
theorem k_Mind_hasPair_36 : decode Y_Mind_hasPair.2.1 36 = .ok (.aload_n 0, 1) := by decide +kernel
theorem k_Mind_hasPair_37 : decode Y_Mind_hasPair.2.1 37 = .ok (.getfield 12, 3) := by decide +kernel
theorem k_Mind_hasPair_40 : decode Y_Mind_hasPair.2.1 40 = .ok (.getfield 58, 3) := by decide +kernel
theorem k_Mind_hasPair_43 : decode Y_Mind_hasPair.2.1 43 = .ok (.iload_n 1, 1) := by decide +kernel
theorem k_Mind_hasPair_44 : decode Y_Mind_hasPair.2.1 44 = .ok (.iload_n 3, 1) := by decide +kernel
theorem k_Mind_hasPair_45 : decode Y_Mind_hasPair.2.1 45 = .ok (.invokevirtual 73, 3) := by decide +kernel
theorem k_Mind_hasPair_48 : decode Y_Mind_hasPair.2.1 48 = .ok (.iload_n 1, 1) := by decide +kernel
theorem k_Mind_hasPair_49 : decode Y_Mind_hasPair.2.1 49 = .ok (.iconst 1, 1) := by decide +kernel
theorem k_Mind_hasPair_50 : decode Y_Mind_hasPair.2.1 50 = .ok (.iadd, 1) := by decide +kernel
theorem k_Mind_hasPair_51 : decode Y_Mind_hasPair.2.1 51 = .ok (.istore 4, 2) := by decide +kernel
theorem k_Mind_hasPair_53 : decode Y_Mind_hasPair.2.1 53 = .ok (.iload 4, 2) := by decide +kernel
theorem k_Mind_hasPair_55 : decode Y_Mind_hasPair.2.1 55 = .ok (.aload_n 0, 1) := by decide +kernel
theorem k_Mind_hasPair_56 : decode Y_Mind_hasPair.2.1 56 = .ok (.getfield 12, 3) := by decide +kernel
theorem k_Mind_hasPair_59 : decode Y_Mind_hasPair.2.1 59 = .ok (.getfield 58, 3) := by decide +kernel
theorem k_Mind_hasPair_62 : decode Y_Mind_hasPair.2.1 62 = .ok (.invokevirtual 62, 3) := by decide +kernel
theorem k_Mind_hasPair_65 : decode Y_Mind_hasPair.2.1 65 = .ok (.if_icmp .ge 32, 3) := by decide +kernel
theorem k_Mind_hasPair_68 : decode Y_Mind_hasPair.2.1 68 = .ok (.aload_n 0, 1) := by decide +kernel
theorem k_Mind_hasPair_69 : decode Y_Mind_hasPair.2.1 69 = .ok (.iload_n 1, 1) := by decide +kernel
theorem k_Mind_hasPair_70 : decode Y_Mind_hasPair.2.1 70 = .ok (.iload 4, 2) := by decide +kernel
theorem k_Mind_hasPair_72 : decode Y_Mind_hasPair.2.1 72 = .ok (.invokevirtual 131, 3) := by decide +kernel
theorem k_Mind_hasPair_75 : decode Y_Mind_hasPair.2.1 75 = .ok (.ifCond .eq 16, 3) := by decide +kernel
theorem k_Mind_hasPair_78 : decode Y_Mind_hasPair.2.1 78 = .ok (.aload_n 0, 1) := by decide +kernel
theorem k_Mind_hasPair_79 : decode Y_Mind_hasPair.2.1 79 = .ok (.iload 4, 2) := by decide +kernel
theorem k_Mind_hasPair_81 : decode Y_Mind_hasPair.2.1 81 = .ok (.invokevirtual 135, 3) := by decide +kernel
theorem k_Mind_hasPair_84 : decode Y_Mind_hasPair.2.1 84 = .ok (.bipush (-9), 2) := by decide +kernel
theorem k_Mind_hasPair_86 : decode Y_Mind_hasPair.2.1 86 = .ok (.if_icmp .eq 5, 3) := by decide +kernel
theorem k_Mind_hasPair_89 : decode Y_Mind_hasPair.2.1 89 = .ok (.iconst 1, 1) := by decide +kernel
theorem k_Mind_hasPair_90 : decode Y_Mind_hasPair.2.1 90 = .ok (.ireturn, 1) := by decide +kernel
theorem k_Mind_hasPair_91 : decode Y_Mind_hasPair.2.1 91 = .ok (.iinc 4 1, 3) := by decide +kernel
theorem k_Mind_hasPair_94 : decode Y_Mind_hasPair.2.1 94 = .ok (.goto (-41), 3) := by decide +kernel
theorem k_Mind_hasPair_97 : decode Y_Mind_hasPair.2.1 97 = .ok (.iinc 3 1, 3) := by decide +kernel
theorem k_Mind_hasPair_100 : decode Y_Mind_hasPair.2.1 100 = .ok (.goto (-70), 3) := by decide +kernel
theorem k_Mind_hasPair_103 : decode Y_Mind_hasPair.2.1 103 = .ok (.aload_n 0, 1) := by decide +kernel
theorem k_Mind_hasPair_104 : decode Y_Mind_hasPair.2.1 104 = .ok (.getfield 12, 3) := by decide +kernel
theorem k_Mind_hasPair_107 : decode Y_Mind_hasPair.2.1 107 = .ok (.getfield 58, 3) := by decide +kernel
theorem k_Mind_hasPair_110 : decode Y_Mind_hasPair.2.1 110 = .ok (.iload_n 1, 1) := by decide +kernel
theorem k_Mind_hasPair_111 : decode Y_Mind_hasPair.2.1 111 = .ok (.iload_n 2, 1) := by decide +kernel
theorem k_Mind_hasPair_112 : decode Y_Mind_hasPair.2.1 112 = .ok (.invokevirtual 73, 3) := by decide +kernel
theorem k_Mind_hasPair_115 : decode Y_Mind_hasPair.2.1 115 = .ok (.iinc 1 1, 3) := by decide +kernel
theorem k_Mind_hasPair_118 : decode Y_Mind_hasPair.2.1 118 = .ok (.goto (-116), 3) := by decide +kernel
theorem k_Mind_hasPair_121 : decode Y_Mind_hasPair.2.1 121 = .ok (.iconst 0, 1) := by decide +kernel
theorem k_Mind_hasPair_122 : decode Y_Mind_hasPair.2.1 122 = .ok (.ireturn, 1) := by decide +kernel
theorem k_Row_init_0 : decode Y_Row_init.2.1 0 = .ok (.aload_n 0, 1) := by decide +kernel
theorem k_Row_init_1 : decode Y_Row_init.2.1 1 = .ok (.invokespecial 1, 3) := by decide +kernel
theorem k_Row_init_4 : decode Y_Row_init.2.1 4 = .ok (.aload_n 0, 1) := by decide +kernel
theorem k_Row_init_5 : decode Y_Row_init.2.1 5 = .ok (.iconst 0, 1) := by decide +kernel
theorem k_Row_init_6 : decode Y_Row_init.2.1 6 = .ok (.putfield 7, 3) := by decide +kernel
theorem k_Row_init_9 : decode Y_Row_init.2.1 9 = .ok (.aload_n 0, 1) := by decide +kernel
theorem k_Row_init_10 : decode Y_Row_init.2.1 10 = .ok (.iload_n 1, 1) := by decide +kernel
theorem k_Row_init_11 : decode Y_Row_init.2.1 11 = .ok (.ifCond .ge 7, 3) := by decide +kernel
theorem k_Row_init_14 : decode Y_Row_init.2.1 14 = .ok (.iconst 0, 1) := by decide +kernel
theorem k_Row_init_15 : decode Y_Row_init.2.1 15 = .ok (.goto 4, 3) := by decide +kernel
theorem k_Row_init_18 : decode Y_Row_init.2.1 18 = .ok (.iload_n 1, 1) := by decide +kernel
theorem k_Row_init_19 : decode Y_Row_init.2.1 19 = .ok (.newarray .int, 2) := by decide +kernel
theorem k_Row_init_21 : decode Y_Row_init.2.1 21 = .ok (.putfield 13, 3) := by decide +kernel
theorem k_Row_init_24 : decode Y_Row_init.2.1 24 = .ok (.return_, 1) := by decide +kernel
theorem k_Row_size_0 : decode Y_Row_size.2.1 0 = .ok (.aload_n 0, 1) := by decide +kernel
theorem k_Row_size_1 : decode Y_Row_size.2.1 1 = .ok (.getfield 7, 3) := by decide +kernel
theorem k_Row_size_4 : decode Y_Row_size.2.1 4 = .ok (.ireturn, 1) := by decide +kernel
theorem k_Row_has_0 : decode Y_Row_has.2.1 0 = .ok (.iload_n 1, 1) := by decide +kernel
theorem k_Row_has_1 : decode Y_Row_has.2.1 1 = .ok (.ifCond .lt 24, 3) := by decide +kernel
theorem k_Row_has_4 : decode Y_Row_has.2.1 4 = .ok (.iload_n 1, 1) := by decide +kernel
theorem k_Row_has_5 : decode Y_Row_has.2.1 5 = .ok (.aload_n 0, 1) := by decide +kernel
theorem k_Row_has_6 : decode Y_Row_has.2.1 6 = .ok (.getfield 7, 3) := by decide +kernel
theorem k_Row_has_9 : decode Y_Row_has.2.1 9 = .ok (.if_icmp .ge 16, 3) := by decide +kernel
theorem k_Row_has_12 : decode Y_Row_has.2.1 12 = .ok (.iload_n 1, 1) := by decide +kernel
theorem k_Row_has_13 : decode Y_Row_has.2.1 13 = .ok (.aload_n 0, 1) := by decide +kernel
theorem k_Row_has_14 : decode Y_Row_has.2.1 14 = .ok (.getfield 13, 3) := by decide +kernel
theorem k_Row_has_17 : decode Y_Row_has.2.1 17 = .ok (.arraylength, 1) := by decide +kernel
theorem k_Row_has_18 : decode Y_Row_has.2.1 18 = .ok (.if_icmp .ge 7, 3) := by decide +kernel
theorem k_Row_has_21 : decode Y_Row_has.2.1 21 = .ok (.iconst 1, 1) := by decide +kernel
theorem k_Row_has_22 : decode Y_Row_has.2.1 22 = .ok (.goto 4, 3) := by decide +kernel
theorem k_Row_has_25 : decode Y_Row_has.2.1 25 = .ok (.iconst 0, 1) := by decide +kernel
theorem k_Row_has_26 : decode Y_Row_has.2.1 26 = .ok (.ireturn, 1) := by decide +kernel
theorem k_Row_get_0 : decode Y_Row_get.2.1 0 = .ok (.iload_n 1, 1) := by decide +kernel
theorem k_Row_get_1 : decode Y_Row_get.2.1 1 = .ok (.ifCond .lt 29, 3) := by decide +kernel
theorem k_Row_get_4 : decode Y_Row_get.2.1 4 = .ok (.iload_n 1, 1) := by decide +kernel
theorem k_Row_get_5 : decode Y_Row_get.2.1 5 = .ok (.aload_n 0, 1) := by decide +kernel
theorem k_Row_get_6 : decode Y_Row_get.2.1 6 = .ok (.getfield 7, 3) := by decide +kernel
theorem k_Row_get_9 : decode Y_Row_get.2.1 9 = .ok (.if_icmp .ge 21, 3) := by decide +kernel
theorem k_Row_get_12 : decode Y_Row_get.2.1 12 = .ok (.iload_n 1, 1) := by decide +kernel
theorem k_Row_get_13 : decode Y_Row_get.2.1 13 = .ok (.aload_n 0, 1) := by decide +kernel
theorem k_Row_get_14 : decode Y_Row_get.2.1 14 = .ok (.getfield 13, 3) := by decide +kernel
theorem k_Row_get_17 : decode Y_Row_get.2.1 17 = .ok (.arraylength, 1) := by decide +kernel
theorem k_Row_get_18 : decode Y_Row_get.2.1 18 = .ok (.if_icmp .ge 12, 3) := by decide +kernel
theorem k_Row_get_21 : decode Y_Row_get.2.1 21 = .ok (.aload_n 0, 1) := by decide +kernel
theorem k_Row_get_22 : decode Y_Row_get.2.1 22 = .ok (.getfield 13, 3) := by decide +kernel
theorem k_Row_get_25 : decode Y_Row_get.2.1 25 = .ok (.iload_n 1, 1) := by decide +kernel
theorem k_Row_get_26 : decode Y_Row_get.2.1 26 = .ok (.iaload, 1) := by decide +kernel
theorem k_Row_get_27 : decode Y_Row_get.2.1 27 = .ok (.goto 4, 3) := by decide +kernel
theorem k_Row_get_30 : decode Y_Row_get.2.1 30 = .ok (.iconst 0, 1) := by decide +kernel
theorem k_Row_get_31 : decode Y_Row_get.2.1 31 = .ok (.ireturn, 1) := by decide +kernel
theorem k_Row_set_0 : decode Y_Row_set.2.1 0 = .ok (.iload_n 1, 1) := by decide +kernel
theorem k_Row_set_1 : decode Y_Row_set.2.1 1 = .ok (.ifCond .lt 27, 3) := by decide +kernel
theorem k_Row_set_4 : decode Y_Row_set.2.1 4 = .ok (.iload_n 1, 1) := by decide +kernel
theorem k_Row_set_5 : decode Y_Row_set.2.1 5 = .ok (.aload_n 0, 1) := by decide +kernel
theorem k_Row_set_6 : decode Y_Row_set.2.1 6 = .ok (.getfield 7, 3) := by decide +kernel
theorem k_Row_set_9 : decode Y_Row_set.2.1 9 = .ok (.if_icmp .ge 19, 3) := by decide +kernel
theorem k_Row_set_12 : decode Y_Row_set.2.1 12 = .ok (.iload_n 1, 1) := by decide +kernel
theorem k_Row_set_13 : decode Y_Row_set.2.1 13 = .ok (.aload_n 0, 1) := by decide +kernel
theorem k_Row_set_14 : decode Y_Row_set.2.1 14 = .ok (.getfield 13, 3) := by decide +kernel
theorem k_Row_set_17 : decode Y_Row_set.2.1 17 = .ok (.arraylength, 1) := by decide +kernel
theorem k_Row_set_18 : decode Y_Row_set.2.1 18 = .ok (.if_icmp .ge 10, 3) := by decide +kernel
theorem k_Row_set_21 : decode Y_Row_set.2.1 21 = .ok (.aload_n 0, 1) := by decide +kernel
theorem k_Row_set_22 : decode Y_Row_set.2.1 22 = .ok (.getfield 13, 3) := by decide +kernel
theorem k_Row_set_25 : decode Y_Row_set.2.1 25 = .ok (.iload_n 1, 1) := by decide +kernel
theorem k_Row_set_26 : decode Y_Row_set.2.1 26 = .ok (.iload_n 2, 1) := by decide +kernel
theorem k_Row_set_27 : decode Y_Row_set.2.1 27 = .ok (.iastore, 1) := by decide +kernel
theorem k_Row_set_28 : decode Y_Row_set.2.1 28 = .ok (.return_, 1) := by decide +kernel
theorem k_Row_add_0 : decode Y_Row_add.2.1 0 = .ok (.aload_n 0, 1) := by decide +kernel
theorem k_Row_add_1 : decode Y_Row_add.2.1 1 = .ok (.getfield 7, 3) := by decide +kernel
theorem k_Row_add_4 : decode Y_Row_add.2.1 4 = .ok (.ifCond .lt 35, 3) := by decide +kernel
theorem k_Row_add_7 : decode Y_Row_add.2.1 7 = .ok (.aload_n 0, 1) := by decide +kernel
theorem k_Row_add_8 : decode Y_Row_add.2.1 8 = .ok (.getfield 7, 3) := by decide +kernel
theorem k_Row_add_11 : decode Y_Row_add.2.1 11 = .ok (.aload_n 0, 1) := by decide +kernel
theorem k_Row_add_12 : decode Y_Row_add.2.1 12 = .ok (.getfield 13, 3) := by decide +kernel
theorem k_Row_add_15 : decode Y_Row_add.2.1 15 = .ok (.arraylength, 1) := by decide +kernel
theorem k_Row_add_16 : decode Y_Row_add.2.1 16 = .ok (.if_icmp .ge 23, 3) := by decide +kernel
theorem k_Row_add_19 : decode Y_Row_add.2.1 19 = .ok (.aload_n 0, 1) := by decide +kernel
theorem k_Row_add_20 : decode Y_Row_add.2.1 20 = .ok (.getfield 13, 3) := by decide +kernel
theorem k_Row_add_23 : decode Y_Row_add.2.1 23 = .ok (.aload_n 0, 1) := by decide +kernel
theorem k_Row_add_24 : decode Y_Row_add.2.1 24 = .ok (.getfield 7, 3) := by decide +kernel
theorem k_Row_add_27 : decode Y_Row_add.2.1 27 = .ok (.iload_n 1, 1) := by decide +kernel
theorem k_Row_add_28 : decode Y_Row_add.2.1 28 = .ok (.iastore, 1) := by decide +kernel
theorem k_Row_add_29 : decode Y_Row_add.2.1 29 = .ok (.aload_n 0, 1) := by decide +kernel
theorem k_Row_add_30 : decode Y_Row_add.2.1 30 = .ok (.dup, 1) := by decide +kernel
theorem k_Row_add_31 : decode Y_Row_add.2.1 31 = .ok (.getfield 7, 3) := by decide +kernel
theorem k_Row_add_34 : decode Y_Row_add.2.1 34 = .ok (.iconst 1, 1) := by decide +kernel
theorem k_Row_add_35 : decode Y_Row_add.2.1 35 = .ok (.iadd, 1) := by decide +kernel
theorem k_Row_add_36 : decode Y_Row_add.2.1 36 = .ok (.putfield 7, 3) := by decide +kernel
theorem k_Row_add_39 : decode Y_Row_add.2.1 39 = .ok (.return_, 1) := by decide +kernel
theorem k_Row_clear_0 : decode Y_Row_clear.2.1 0 = .ok (.aload_n 0, 1) := by decide +kernel
theorem k_Row_clear_1 : decode Y_Row_clear.2.1 1 = .ok (.iconst 0, 1) := by decide +kernel
theorem k_Row_clear_2 : decode Y_Row_clear.2.1 2 = .ok (.putfield 7, 3) := by decide +kernel
theorem k_Row_clear_5 : decode Y_Row_clear.2.1 5 = .ok (.return_, 1) := by decide +kernel
theorem k_Row_copyFrom_0 : decode Y_Row_copyFrom.2.1 0 = .ok (.aload_n 0, 1) := by decide +kernel
theorem k_Row_copyFrom_1 : decode Y_Row_copyFrom.2.1 1 = .ok (.invokevirtual 17, 3) := by decide +kernel
theorem k_Row_copyFrom_4 : decode Y_Row_copyFrom.2.1 4 = .ok (.aload_n 1, 1) := by decide +kernel
theorem k_Row_copyFrom_5 : decode Y_Row_copyFrom.2.1 5 = .ok (.ifnull 28, 3) := by decide +kernel
theorem k_Row_copyFrom_8 : decode Y_Row_copyFrom.2.1 8 = .ok (.iconst 0, 1) := by decide +kernel
theorem k_Row_copyFrom_9 : decode Y_Row_copyFrom.2.1 9 = .ok (.istore_n 2, 1) := by decide +kernel
theorem k_Row_copyFrom_10 : decode Y_Row_copyFrom.2.1 10 = .ok (.iload_n 2, 1) := by decide +kernel
theorem k_Row_copyFrom_11 : decode Y_Row_copyFrom.2.1 11 = .ok (.aload_n 1, 1) := by decide +kernel
theorem k_Row_copyFrom_12 : decode Y_Row_copyFrom.2.1 12 = .ok (.invokevirtual 20, 3) := by decide +kernel
theorem k_Row_copyFrom_15 : decode Y_Row_copyFrom.2.1 15 = .ok (.if_icmp .ge 18, 3) := by decide +kernel
theorem k_Row_copyFrom_18 : decode Y_Row_copyFrom.2.1 18 = .ok (.aload_n 0, 1) := by decide +kernel
theorem k_Row_copyFrom_19 : decode Y_Row_copyFrom.2.1 19 = .ok (.aload_n 1, 1) := by decide +kernel
theorem k_Row_copyFrom_20 : decode Y_Row_copyFrom.2.1 20 = .ok (.iload_n 2, 1) := by decide +kernel
theorem k_Row_copyFrom_21 : decode Y_Row_copyFrom.2.1 21 = .ok (.invokevirtual 24, 3) := by decide +kernel
theorem k_Row_copyFrom_24 : decode Y_Row_copyFrom.2.1 24 = .ok (.invokevirtual 28, 3) := by decide +kernel
theorem k_Row_copyFrom_27 : decode Y_Row_copyFrom.2.1 27 = .ok (.iinc 2 1, 3) := by decide +kernel
theorem k_Row_copyFrom_30 : decode Y_Row_copyFrom.2.1 30 = .ok (.goto (-20), 3) := by decide +kernel
theorem k_Row_copyFrom_33 : decode Y_Row_copyFrom.2.1 33 = .ok (.return_, 1) := by decide +kernel
theorem k_Text_init_0 : decode Y_Text_init.2.1 0 = .ok (.aload_n 0, 1) := by decide +kernel
theorem k_Text_init_1 : decode Y_Text_init.2.1 1 = .ok (.invokespecial 3, 3) := by decide +kernel
theorem k_Text_init_4 : decode Y_Text_init.2.1 4 = .ok (.aload_n 0, 1) := by decide +kernel
theorem k_Text_init_5 : decode Y_Text_init.2.1 5 = .ok (.new 9, 3) := by decide +kernel
theorem k_Text_init_8 : decode Y_Text_init.2.1 8 = .ok (.dup, 1) := by decide +kernel
theorem k_Text_init_9 : decode Y_Text_init.2.1 9 = .ok (.bipush 80, 2) := by decide +kernel
theorem k_Text_init_11 : decode Y_Text_init.2.1 11 = .ok (.invokespecial 11, 3) := by decide +kernel
theorem k_Text_init_14 : decode Y_Text_init.2.1 14 = .ok (.putfield 14, 3) := by decide +kernel
theorem k_Text_init_17 : decode Y_Text_init.2.1 17 = .ok (.return_, 1) := by decide +kernel
theorem k_Text_size_0 : decode Y_Text_size.2.1 0 = .ok (.aload_n 0, 1) := by decide +kernel
theorem k_Text_size_1 : decode Y_Text_size.2.1 1 = .ok (.getfield 14, 3) := by decide +kernel
theorem k_Text_size_4 : decode Y_Text_size.2.1 4 = .ok (.invokevirtual 20, 3) := by decide +kernel
theorem k_Text_size_7 : decode Y_Text_size.2.1 7 = .ok (.ireturn, 1) := by decide +kernel
theorem k_Text_add_0 : decode Y_Text_add.2.1 0 = .ok (.aload_n 0, 1) := by decide +kernel
theorem k_Text_add_1 : decode Y_Text_add.2.1 1 = .ok (.getfield 14, 3) := by decide +kernel
theorem k_Text_add_4 : decode Y_Text_add.2.1 4 = .ok (.iload_n 1, 1) := by decide +kernel
theorem k_Text_add_5 : decode Y_Text_add.2.1 5 = .ok (.invokevirtual 24, 3) := by decide +kernel
theorem k_Text_add_8 : decode Y_Text_add.2.1 8 = .ok (.aload_n 0, 1) := by decide +kernel
theorem k_Text_add_9 : decode Y_Text_add.2.1 9 = .ok (.getfield 14, 3) := by decide +kernel
theorem k_Text_add_12 : decode Y_Text_add.2.1 12 = .ok (.invokevirtual 20, 3) := by decide +kernel
theorem k_Text_add_15 : decode Y_Text_add.2.1 15 = .ok (.ireturn, 1) := by decide +kernel
theorem k_Text_clear_0 : decode Y_Text_clear.2.1 0 = .ok (.aload_n 0, 1) := by decide +kernel
theorem k_Text_clear_1 : decode Y_Text_clear.2.1 1 = .ok (.getfield 14, 3) := by decide +kernel
theorem k_Text_clear_4 : decode Y_Text_clear.2.1 4 = .ok (.invokevirtual 27, 3) := by decide +kernel
theorem k_Text_clear_7 : decode Y_Text_clear.2.1 7 = .ok (.return_, 1) := by decide +kernel
theorem k_Text_at_0 : decode Y_Text_at.2.1 0 = .ok (.aload_n 0, 1) := by decide +kernel
theorem k_Text_at_1 : decode Y_Text_at.2.1 1 = .ok (.getfield 14, 3) := by decide +kernel
theorem k_Text_at_4 : decode Y_Text_at.2.1 4 = .ok (.iload_n 1, 1) := by decide +kernel
theorem k_Text_at_5 : decode Y_Text_at.2.1 5 = .ok (.invokevirtual 30, 3) := by decide +kernel
theorem k_Text_at_8 : decode Y_Text_at.2.1 8 = .ok (.ifCond .eq 14, 3) := by decide +kernel
theorem k_Text_at_11 : decode Y_Text_at.2.1 11 = .ok (.aload_n 0, 1) := by decide +kernel
theorem k_Text_at_12 : decode Y_Text_at.2.1 12 = .ok (.getfield 14, 3) := by decide +kernel
theorem k_Text_at_15 : decode Y_Text_at.2.1 15 = .ok (.iload_n 1, 1) := by decide +kernel
theorem k_Text_at_16 : decode Y_Text_at.2.1 16 = .ok (.invokevirtual 34, 3) := by decide +kernel
theorem k_Text_at_19 : decode Y_Text_at.2.1 19 = .ok (.goto 4, 3) := by decide +kernel
theorem k_Text_at_22 : decode Y_Text_at.2.1 22 = .ok (.iconst (-1), 1) := by decide +kernel
theorem k_Text_at_23 : decode Y_Text_at.2.1 23 = .ok (.ireturn, 1) := by decide +kernel
theorem k_Text_isDigit_0 : decode Y_Text_isDigit.2.1 0 = .ok (.aload_n 0, 1) := by decide +kernel
theorem k_Text_isDigit_1 : decode Y_Text_isDigit.2.1 1 = .ok (.iload_n 1, 1) := by decide +kernel
theorem k_Text_isDigit_2 : decode Y_Text_isDigit.2.1 2 = .ok (.invokevirtual 38, 3) := by decide +kernel
theorem k_Text_isDigit_5 : decode Y_Text_isDigit.2.1 5 = .ok (.bipush 48, 2) := by decide +kernel
theorem k_Text_isDigit_7 : decode Y_Text_isDigit.2.1 7 = .ok (.if_icmp .lt 17, 3) := by decide +kernel
theorem k_Text_isDigit_10 : decode Y_Text_isDigit.2.1 10 = .ok (.aload_n 0, 1) := by decide +kernel
theorem k_Text_isDigit_11 : decode Y_Text_isDigit.2.1 11 = .ok (.iload_n 1, 1) := by decide +kernel
theorem k_Text_isDigit_12 : decode Y_Text_isDigit.2.1 12 = .ok (.invokevirtual 38, 3) := by decide +kernel
theorem k_Text_isDigit_15 : decode Y_Text_isDigit.2.1 15 = .ok (.bipush 57, 2) := by decide +kernel
theorem k_Text_isDigit_17 : decode Y_Text_isDigit.2.1 17 = .ok (.if_icmp .gt 7, 3) := by decide +kernel
theorem k_Text_isDigit_20 : decode Y_Text_isDigit.2.1 20 = .ok (.iconst 1, 1) := by decide +kernel
theorem k_Text_isDigit_21 : decode Y_Text_isDigit.2.1 21 = .ok (.goto 4, 3) := by decide +kernel
theorem k_Text_isDigit_24 : decode Y_Text_isDigit.2.1 24 = .ok (.iconst 0, 1) := by decide +kernel
theorem k_Text_isDigit_25 : decode Y_Text_isDigit.2.1 25 = .ok (.ireturn, 1) := by decide +kernel
theorem k_Text_digit_0 : decode Y_Text_digit.2.1 0 = .ok (.aload_n 0, 1) := by decide +kernel
theorem k_Text_digit_1 : decode Y_Text_digit.2.1 1 = .ok (.iload_n 1, 1) := by decide +kernel
theorem k_Text_digit_2 : decode Y_Text_digit.2.1 2 = .ok (.invokevirtual 38, 3) := by decide +kernel
theorem k_Text_digit_5 : decode Y_Text_digit.2.1 5 = .ok (.bipush 48, 2) := by decide +kernel
theorem k_Text_digit_7 : decode Y_Text_digit.2.1 7 = .ok (.isub, 1) := by decide +kernel
theorem k_Text_digit_8 : decode Y_Text_digit.2.1 8 = .ok (.ireturn, 1) := by decide +kernel
theorem k_Text_kind_0 : decode Y_Text_kind.2.1 0 = .ok (.iconst 0, 1) := by decide +kernel
theorem k_Text_kind_1 : decode Y_Text_kind.2.1 1 = .ok (.istore_n 2, 1) := by decide +kernel
theorem k_Text_kind_2 : decode Y_Text_kind.2.1 2 = .ok (.iload_n 2, 1) := by decide +kernel
theorem k_Text_kind_3 : decode Y_Text_kind.2.1 3 = .ok (.ldc 41, 2) := by decide +kernel
theorem k_Text_kind_5 : decode Y_Text_kind.2.1 5 = .ok (.invokevirtual 43, 3) := by decide +kernel
theorem k_Text_kind_8 : decode Y_Text_kind.2.1 8 = .ok (.if_icmp .ge 25, 3) := by decide +kernel
theorem k_Text_kind_11 : decode Y_Text_kind.2.1 11 = .ok (.ldc 41, 2) := by decide +kernel
theorem k_Text_kind_13 : decode Y_Text_kind.2.1 13 = .ok (.iload_n 2, 1) := by decide +kernel
theorem k_Text_kind_14 : decode Y_Text_kind.2.1 14 = .ok (.invokevirtual 48, 3) := by decide +kernel
theorem k_Text_kind_17 : decode Y_Text_kind.2.1 17 = .ok (.aload_n 0, 1) := by decide +kernel
theorem k_Text_kind_18 : decode Y_Text_kind.2.1 18 = .ok (.iload_n 1, 1) := by decide +kernel
theorem k_Text_kind_19 : decode Y_Text_kind.2.1 19 = .ok (.invokevirtual 38, 3) := by decide +kernel
theorem k_Text_kind_22 : decode Y_Text_kind.2.1 22 = .ok (.if_icmp .ne 5, 3) := by decide +kernel
theorem k_Text_kind_25 : decode Y_Text_kind.2.1 25 = .ok (.iload_n 2, 1) := by decide +kernel
theorem k_Text_kind_26 : decode Y_Text_kind.2.1 26 = .ok (.ireturn, 1) := by decide +kernel
theorem k_Text_kind_27 : decode Y_Text_kind.2.1 27 = .ok (.iinc 2 1, 3) := by decide +kernel
theorem k_Text_kind_30 : decode Y_Text_kind.2.1 30 = .ok (.goto (-28), 3) := by decide +kernel
theorem k_Text_kind_33 : decode Y_Text_kind.2.1 33 = .ok (.iconst (-1), 1) := by decide +kernel
theorem k_Text_kind_34 : decode Y_Text_kind.2.1 34 = .ok (.ireturn, 1) := by decide +kernel
theorem k_Text_formAt_0 : decode Y_Text_formAt.2.1 0 = .ok (.aload_n 0, 1) := by decide +kernel
theorem k_Text_formAt_1 : decode Y_Text_formAt.2.1 1 = .ok (.iload_n 1, 1) := by decide +kernel
theorem k_Text_formAt_2 : decode Y_Text_formAt.2.1 2 = .ok (.invokevirtual 38, 3) := by decide +kernel
theorem k_Text_formAt_5 : decode Y_Text_formAt.2.1 5 = .ok (.lookupswitch 59 #[(114, 53), (118, 35), (119, 56)], 35) := by decide +kernel
theorem k_Text_formAt_40 : decode Y_Text_formAt.2.1 40 = .ok (.aload_n 0, 1) := by decide +kernel
theorem k_Text_formAt_41 : decode Y_Text_formAt.2.1 41 = .ok (.iload_n 1, 1) := by decide +kernel
theorem k_Text_formAt_42 : decode Y_Text_formAt.2.1 42 = .ok (.iconst 3, 1) := by decide +kernel
theorem k_Text_formAt_43 : decode Y_Text_formAt.2.1 43 = .ok (.iadd, 1) := by decide +kernel
theorem k_Text_formAt_44 : decode Y_Text_formAt.2.1 44 = .ok (.invokevirtual 52, 3) := by decide +kernel
theorem k_Text_formAt_47 : decode Y_Text_formAt.2.1 47 = .ok (.ifCond .eq 8, 3) := by decide +kernel
theorem k_Text_formAt_50 : decode Y_Text_formAt.2.1 50 = .ok (.ldc 55, 2) := by decide +kernel
theorem k_Text_formAt_52 : decode Y_Text_formAt.2.1 52 = .ok (.goto 5, 3) := by decide +kernel
theorem k_Text_formAt_55 : decode Y_Text_formAt.2.1 55 = .ok (.ldc 57, 2) := by decide +kernel
theorem k_Text_formAt_57 : decode Y_Text_formAt.2.1 57 = .ok (.areturn, 1) := by decide +kernel
theorem k_Text_formAt_58 : decode Y_Text_formAt.2.1 58 = .ok (.ldc 59, 2) := by decide +kernel
theorem k_Text_formAt_60 : decode Y_Text_formAt.2.1 60 = .ok (.areturn, 1) := by decide +kernel
theorem k_Text_formAt_61 : decode Y_Text_formAt.2.1 61 = .ok (.ldc 61, 2) := by decide +kernel
theorem k_Text_formAt_63 : decode Y_Text_formAt.2.1 63 = .ok (.areturn, 1) := by decide +kernel
theorem k_Text_formAt_64 : decode Y_Text_formAt.2.1 64 = .ok (.ldc 63, 2) := by decide +kernel
theorem k_Text_formAt_66 : decode Y_Text_formAt.2.1 66 = .ok (.areturn, 1) := by decide +kernel
theorem k_Text_fits_0 : decode Y_Text_fits.2.1 0 = .ok (.iload_n 1, 1) := by decide +kernel
theorem k_Text_fits_1 : decode Y_Text_fits.2.1 1 = .ok (.lookupswitch 47 #[(35, 27), (64, 33)], 27) := by decide +kernel
theorem k_Text_fits_28 : decode Y_Text_fits.2.1 28 = .ok (.aload_n 0, 1) := by decide +kernel
theorem k_Text_fits_29 : decode Y_Text_fits.2.1 29 = .ok (.iload_n 2, 1) := by decide +kernel
theorem k_Text_fits_30 : decode Y_Text_fits.2.1 30 = .ok (.invokevirtual 52, 3) := by decide +kernel
theorem k_Text_fits_33 : decode Y_Text_fits.2.1 33 = .ok (.ireturn, 1) := by decide +kernel
theorem k_Text_fits_34 : decode Y_Text_fits.2.1 34 = .ok (.aload_n 0, 1) := by decide +kernel
theorem k_Text_fits_35 : decode Y_Text_fits.2.1 35 = .ok (.iload_n 2, 1) := by decide +kernel
theorem k_Text_fits_36 : decode Y_Text_fits.2.1 36 = .ok (.invokevirtual 65, 3) := by decide +kernel
theorem k_Text_fits_39 : decode Y_Text_fits.2.1 39 = .ok (.ifCond .lt 7, 3) := by decide +kernel
theorem k_Text_fits_42 : decode Y_Text_fits.2.1 42 = .ok (.iconst 1, 1) := by decide +kernel
theorem k_Text_fits_43 : decode Y_Text_fits.2.1 43 = .ok (.goto 4, 3) := by decide +kernel
theorem k_Text_fits_46 : decode Y_Text_fits.2.1 46 = .ok (.iconst 0, 1) := by decide +kernel
theorem k_Text_fits_47 : decode Y_Text_fits.2.1 47 = .ok (.ireturn, 1) := by decide +kernel
theorem k_Text_fits_48 : decode Y_Text_fits.2.1 48 = .ok (.aload_n 0, 1) := by decide +kernel
theorem k_Text_fits_49 : decode Y_Text_fits.2.1 49 = .ok (.iload_n 2, 1) := by decide +kernel
theorem k_Text_fits_50 : decode Y_Text_fits.2.1 50 = .ok (.invokevirtual 38, 3) := by decide +kernel
theorem k_Text_fits_53 : decode Y_Text_fits.2.1 53 = .ok (.iload_n 1, 1) := by decide +kernel
theorem k_Text_fits_54 : decode Y_Text_fits.2.1 54 = .ok (.if_icmp .ne 7, 3) := by decide +kernel
theorem k_Text_fits_57 : decode Y_Text_fits.2.1 57 = .ok (.iconst 1, 1) := by decide +kernel
theorem k_Text_fits_58 : decode Y_Text_fits.2.1 58 = .ok (.goto 4, 3) := by decide +kernel
theorem k_Text_fits_61 : decode Y_Text_fits.2.1 61 = .ok (.iconst 0, 1) := by decide +kernel
theorem k_Text_fits_62 : decode Y_Text_fits.2.1 62 = .ok (.ireturn, 1) := by decide +kernel
theorem k_Text_formFault_0 : decode Y_Text_formFault.2.1 0 = .ok (.iconst 0, 1) := by decide +kernel
theorem k_Text_formFault_1 : decode Y_Text_formFault.2.1 1 = .ok (.istore_n 1, 1) := by decide +kernel
theorem k_Text_formFault_2 : decode Y_Text_formFault.2.1 2 = .ok (.iconst 0, 1) := by decide +kernel
theorem k_Text_formFault_3 : decode Y_Text_formFault.2.1 3 = .ok (.istore_n 2, 1) := by decide +kernel
theorem k_Text_formFault_4 : decode Y_Text_formFault.2.1 4 = .ok (.iload_n 2, 1) := by decide +kernel
theorem k_Text_formFault_5 : decode Y_Text_formFault.2.1 5 = .ok (.bipush 80, 2) := by decide +kernel
theorem k_Text_formFault_7 : decode Y_Text_formFault.2.1 7 = .ok (.if_icmp .ge 79, 3) := by decide +kernel
theorem k_Text_formFault_10 : decode Y_Text_formFault.2.1 10 = .ok (.aload_n 0, 1) := by decide +kernel
theorem k_Text_formFault_11 : decode Y_Text_formFault.2.1 11 = .ok (.iload_n 1, 1) := by decide +kernel
theorem k_Text_formFault_12 : decode Y_Text_formFault.2.1 12 = .ok (.invokevirtual 68, 3) := by decide +kernel
theorem k_Text_formFault_15 : decode Y_Text_formFault.2.1 15 = .ok (.astore_n 3, 1) := by decide +kernel
theorem k_Text_formFault_16 : decode Y_Text_formFault.2.1 16 = .ok (.iconst 0, 1) := by decide +kernel
theorem k_Text_formFault_17 : decode Y_Text_formFault.2.1 17 = .ok (.istore 4, 2) := by decide +kernel
theorem k_Text_formFault_19 : decode Y_Text_formFault.2.1 19 = .ok (.iload 4, 2) := by decide +kernel
theorem k_Text_formFault_21 : decode Y_Text_formFault.2.1 21 = .ok (.aload_n 3, 1) := by decide +kernel
theorem k_Text_formFault_22 : decode Y_Text_formFault.2.1 22 = .ok (.invokevirtual 43, 3) := by decide +kernel
theorem k_Text_formFault_25 : decode Y_Text_formFault.2.1 25 = .ok (.if_icmp .ge 35, 3) := by decide +kernel
theorem k_Text_formFault_28 : decode Y_Text_formFault.2.1 28 = .ok (.aload_n 0, 1) := by decide +kernel
theorem k_Text_formFault_29 : decode Y_Text_formFault.2.1 29 = .ok (.aload_n 3, 1) := by decide +kernel
theorem k_Text_formFault_30 : decode Y_Text_formFault.2.1 30 = .ok (.iload 4, 2) := by decide +kernel
theorem k_Text_formFault_32 : decode Y_Text_formFault.2.1 32 = .ok (.invokevirtual 48, 3) := by decide +kernel
theorem k_Text_formFault_35 : decode Y_Text_formFault.2.1 35 = .ok (.iload_n 1, 1) := by decide +kernel
theorem k_Text_formFault_36 : decode Y_Text_formFault.2.1 36 = .ok (.iload 4, 2) := by decide +kernel
theorem k_Text_formFault_38 : decode Y_Text_formFault.2.1 38 = .ok (.iadd, 1) := by decide +kernel
theorem k_Text_formFault_39 : decode Y_Text_formFault.2.1 39 = .ok (.invokevirtual 72, 3) := by decide +kernel
theorem k_Text_formFault_42 : decode Y_Text_formFault.2.1 42 = .ok (.ifCond .ne 12, 3) := by decide +kernel
theorem k_Text_formFault_45 : decode Y_Text_formFault.2.1 45 = .ok (.sipush (-1000), 3) := by decide +kernel
theorem k_Text_formFault_48 : decode Y_Text_formFault.2.1 48 = .ok (.iload_n 1, 1) := by decide +kernel
theorem k_Text_formFault_49 : decode Y_Text_formFault.2.1 49 = .ok (.isub, 1) := by decide +kernel
theorem k_Text_formFault_50 : decode Y_Text_formFault.2.1 50 = .ok (.iload 4, 2) := by decide +kernel
theorem k_Text_formFault_52 : decode Y_Text_formFault.2.1 52 = .ok (.isub, 1) := by decide +kernel
theorem k_Text_formFault_53 : decode Y_Text_formFault.2.1 53 = .ok (.ireturn, 1) := by decide +kernel
theorem k_Text_formFault_54 : decode Y_Text_formFault.2.1 54 = .ok (.iinc 4 1, 3) := by decide +kernel
theorem k_Text_formFault_57 : decode Y_Text_formFault.2.1 57 = .ok (.goto (-38), 3) := by decide +kernel
theorem k_Text_formFault_60 : decode Y_Text_formFault.2.1 60 = .ok (.iload_n 1, 1) := by decide +kernel
theorem k_Text_formFault_61 : decode Y_Text_formFault.2.1 61 = .ok (.aload_n 3, 1) := by decide +kernel
theorem k_Text_formFault_62 : decode Y_Text_formFault.2.1 62 = .ok (.invokevirtual 43, 3) := by decide +kernel
theorem k_Text_formFault_65 : decode Y_Text_formFault.2.1 65 = .ok (.iadd, 1) := by decide +kernel
theorem k_Text_formFault_66 : decode Y_Text_formFault.2.1 66 = .ok (.istore_n 1, 1) := by decide +kernel
theorem k_Text_formFault_67 : decode Y_Text_formFault.2.1 67 = .ok (.iload_n 1, 1) := by decide +kernel
theorem k_Text_formFault_68 : decode Y_Text_formFault.2.1 68 = .ok (.aload_n 0, 1) := by decide +kernel
end
section
/-! what each instruction decodes to (written by wip/whole/tools/gen_dec.py) -/
theorem k_Text_formFault_69 : decode Y_Text_formFault.2.1 69 = .ok (.getfield 14, 3) := by decide +kernel
theorem k_Text_formFault_72 : decode Y_Text_formFault.2.1 72 = .ok (.invokevirtual 20, 3) := by decide +kernel
theorem k_Text_formFault_75 : decode Y_Text_formFault.2.1 75 = .ok (.if_icmp .lt 5, 3) := by decide +kernel
theorem k_Text_formFault_78 : decode Y_Text_formFault.2.1 78 = .ok (.iconst 0, 1) := by decide +kernel
theorem k_Text_formFault_79 : decode Y_Text_formFault.2.1 79 = .ok (.ireturn, 1) := by decide +kernel
theorem k_Text_formFault_80 : decode Y_Text_formFault.2.1 80 = .ok (.iinc 2 1, 3) := by decide +kernel
theorem k_Text_formFault_83 : decode Y_Text_formFault.2.1 83 = .ok (.goto (-79), 3) := by decide +kernel
theorem k_Text_formFault_86 : decode Y_Text_formFault.2.1 86 = .ok (.iconst 0, 1) := by decide +kernel
theorem k_Text_formFault_87 : decode Y_Text_formFault.2.1 87 = .ok (.ireturn, 1) := by decide +kernel
theorem k_Text_tellAll_0 : decode Y_Text_tellAll.2.1 0 = .ok (.iconst 0, 1) := by decide +kernel
theorem k_Text_tellAll_1 : decode Y_Text_tellAll.2.1 1 = .ok (.istore_n 2, 1) := by decide +kernel
theorem k_Text_tellAll_2 : decode Y_Text_tellAll.2.1 2 = .ok (.iconst 0, 1) := by decide +kernel
theorem k_Text_tellAll_3 : decode Y_Text_tellAll.2.1 3 = .ok (.istore_n 3, 1) := by decide +kernel
theorem k_Text_tellAll_4 : decode Y_Text_tellAll.2.1 4 = .ok (.iload_n 3, 1) := by decide +kernel
theorem k_Text_tellAll_5 : decode Y_Text_tellAll.2.1 5 = .ok (.bipush 80, 2) := by decide +kernel
theorem k_Text_tellAll_7 : decode Y_Text_tellAll.2.1 7 = .ok (.if_icmp .ge 52, 3) := by decide +kernel
theorem k_Text_tellAll_10 : decode Y_Text_tellAll.2.1 10 = .ok (.iload_n 2, 1) := by decide +kernel
theorem k_Text_tellAll_11 : decode Y_Text_tellAll.2.1 11 = .ok (.aload_n 0, 1) := by decide +kernel
theorem k_Text_tellAll_12 : decode Y_Text_tellAll.2.1 12 = .ok (.getfield 14, 3) := by decide +kernel
theorem k_Text_tellAll_15 : decode Y_Text_tellAll.2.1 15 = .ok (.invokevirtual 20, 3) := by decide +kernel
theorem k_Text_tellAll_18 : decode Y_Text_tellAll.2.1 18 = .ok (.if_icmp .ge 41, 3) := by decide +kernel
theorem k_Text_tellAll_21 : decode Y_Text_tellAll.2.1 21 = .ok (.iload_n 2, 1) := by decide +kernel
theorem k_Text_tellAll_22 : decode Y_Text_tellAll.2.1 22 = .ok (.aload_n 0, 1) := by decide +kernel
theorem k_Text_tellAll_23 : decode Y_Text_tellAll.2.1 23 = .ok (.iload_n 2, 1) := by decide +kernel
theorem k_Text_tellAll_24 : decode Y_Text_tellAll.2.1 24 = .ok (.invokevirtual 68, 3) := by decide +kernel
theorem k_Text_tellAll_27 : decode Y_Text_tellAll.2.1 27 = .ok (.invokevirtual 43, 3) := by decide +kernel
theorem k_Text_tellAll_30 : decode Y_Text_tellAll.2.1 30 = .ok (.iadd, 1) := by decide +kernel
theorem k_Text_tellAll_31 : decode Y_Text_tellAll.2.1 31 = .ok (.istore 4, 2) := by decide +kernel
theorem k_Text_tellAll_33 : decode Y_Text_tellAll.2.1 33 = .ok (.aload_n 0, 1) := by decide +kernel
theorem k_Text_tellAll_34 : decode Y_Text_tellAll.2.1 34 = .ok (.aload_n 1, 1) := by decide +kernel
theorem k_Text_tellAll_35 : decode Y_Text_tellAll.2.1 35 = .ok (.iload_n 2, 1) := by decide +kernel
theorem k_Text_tellAll_36 : decode Y_Text_tellAll.2.1 36 = .ok (.iload 4, 2) := by decide +kernel
theorem k_Text_tellAll_38 : decode Y_Text_tellAll.2.1 38 = .ok (.invokevirtual 76, 3) := by decide +kernel
theorem k_Text_tellAll_41 : decode Y_Text_tellAll.2.1 41 = .ok (.ifCond .ne 9, 3) := by decide +kernel
theorem k_Text_tellAll_44 : decode Y_Text_tellAll.2.1 44 = .ok (.sipush (-2000), 3) := by decide +kernel
theorem k_Text_tellAll_47 : decode Y_Text_tellAll.2.1 47 = .ok (.iload_n 2, 1) := by decide +kernel
theorem k_Text_tellAll_48 : decode Y_Text_tellAll.2.1 48 = .ok (.isub, 1) := by decide +kernel
theorem k_Text_tellAll_49 : decode Y_Text_tellAll.2.1 49 = .ok (.ireturn, 1) := by decide +kernel
theorem k_Text_tellAll_50 : decode Y_Text_tellAll.2.1 50 = .ok (.iload 4, 2) := by decide +kernel
theorem k_Text_tellAll_52 : decode Y_Text_tellAll.2.1 52 = .ok (.istore_n 2, 1) := by decide +kernel
theorem k_Text_tellAll_53 : decode Y_Text_tellAll.2.1 53 = .ok (.iinc 3 1, 3) := by decide +kernel
theorem k_Text_tellAll_56 : decode Y_Text_tellAll.2.1 56 = .ok (.goto (-52), 3) := by decide +kernel
theorem k_Text_tellAll_59 : decode Y_Text_tellAll.2.1 59 = .ok (.iload_n 3, 1) := by decide +kernel
theorem k_Text_tellAll_60 : decode Y_Text_tellAll.2.1 60 = .ok (.ireturn, 1) := by decide +kernel
theorem k_Text_tell_0 : decode Y_Text_tell.2.1 0 = .ok (.aload_n 1, 1) := by decide +kernel
theorem k_Text_tell_1 : decode Y_Text_tell.2.1 1 = .ok (.ifnonnull 5, 3) := by decide +kernel
theorem k_Text_tell_4 : decode Y_Text_tell.2.1 4 = .ok (.iconst 0, 1) := by decide +kernel
theorem k_Text_tell_5 : decode Y_Text_tell.2.1 5 = .ok (.ireturn, 1) := by decide +kernel
theorem k_Text_tell_6 : decode Y_Text_tell.2.1 6 = .ok (.aload_n 0, 1) := by decide +kernel
theorem k_Text_tell_7 : decode Y_Text_tell.2.1 7 = .ok (.iload_n 2, 1) := by decide +kernel
theorem k_Text_tell_8 : decode Y_Text_tell.2.1 8 = .ok (.invokevirtual 38, 3) := by decide +kernel
theorem k_Text_tell_11 : decode Y_Text_tell.2.1 11 = .ok (.tableswitch 129 110 119 #[53, 129, 129, 129, 98, 129, 129, 129, 72, 117], 53) := by decide +kernel
theorem k_Text_tell_64 : decode Y_Text_tell.2.1 64 = .ok (.aload_n 1, 1) := by decide +kernel
theorem k_Text_tell_65 : decode Y_Text_tell.2.1 65 = .ok (.aload_n 0, 1) := by decide +kernel
theorem k_Text_tell_66 : decode Y_Text_tell.2.1 66 = .ok (.iload_n 2, 1) := by decide +kernel
theorem k_Text_tell_67 : decode Y_Text_tell.2.1 67 = .ok (.iconst 1, 1) := by decide +kernel
theorem k_Text_tell_68 : decode Y_Text_tell.2.1 68 = .ok (.iadd, 1) := by decide +kernel
theorem k_Text_tell_69 : decode Y_Text_tell.2.1 69 = .ok (.invokevirtual 80, 3) := by decide +kernel
theorem k_Text_tell_72 : decode Y_Text_tell.2.1 72 = .ok (.aload_n 0, 1) := by decide +kernel
theorem k_Text_tell_73 : decode Y_Text_tell.2.1 73 = .ok (.iload_n 2, 1) := by decide +kernel
theorem k_Text_tell_74 : decode Y_Text_tell.2.1 74 = .ok (.iconst 2, 1) := by decide +kernel
theorem k_Text_tell_75 : decode Y_Text_tell.2.1 75 = .ok (.iadd, 1) := by decide +kernel
theorem k_Text_tell_76 : decode Y_Text_tell.2.1 76 = .ok (.invokevirtual 80, 3) := by decide +kernel
theorem k_Text_tell_79 : decode Y_Text_tell.2.1 79 = .ok (.invokevirtual 83, 3) := by decide +kernel
theorem k_Text_tell_82 : decode Y_Text_tell.2.1 82 = .ok (.ireturn, 1) := by decide +kernel
theorem k_Text_tell_83 : decode Y_Text_tell.2.1 83 = .ok (.aload_n 1, 1) := by decide +kernel
theorem k_Text_tell_84 : decode Y_Text_tell.2.1 84 = .ok (.aload_n 0, 1) := by decide +kernel
theorem k_Text_tell_85 : decode Y_Text_tell.2.1 85 = .ok (.iload_n 2, 1) := by decide +kernel
theorem k_Text_tell_86 : decode Y_Text_tell.2.1 86 = .ok (.iconst 1, 1) := by decide +kernel
theorem k_Text_tell_87 : decode Y_Text_tell.2.1 87 = .ok (.iadd, 1) := by decide +kernel
theorem k_Text_tell_88 : decode Y_Text_tell.2.1 88 = .ok (.invokevirtual 65, 3) := by decide +kernel
theorem k_Text_tell_91 : decode Y_Text_tell.2.1 91 = .ok (.aload_n 0, 1) := by decide +kernel
theorem k_Text_tell_92 : decode Y_Text_tell.2.1 92 = .ok (.iload_n 2, 1) := by decide +kernel
theorem k_Text_tell_93 : decode Y_Text_tell.2.1 93 = .ok (.iconst 2, 1) := by decide +kernel
theorem k_Text_tell_94 : decode Y_Text_tell.2.1 94 = .ok (.iadd, 1) := by decide +kernel
theorem k_Text_tell_95 : decode Y_Text_tell.2.1 95 = .ok (.invokevirtual 89, 3) := by decide +kernel
theorem k_Text_tell_98 : decode Y_Text_tell.2.1 98 = .ok (.aload_n 0, 1) := by decide +kernel
theorem k_Text_tell_99 : decode Y_Text_tell.2.1 99 = .ok (.iload_n 3, 1) := by decide +kernel
theorem k_Text_tell_100 : decode Y_Text_tell.2.1 100 = .ok (.iconst 2, 1) := by decide +kernel
theorem k_Text_tell_101 : decode Y_Text_tell.2.1 101 = .ok (.isub, 1) := by decide +kernel
theorem k_Text_tell_102 : decode Y_Text_tell.2.1 102 = .ok (.invokevirtual 80, 3) := by decide +kernel
theorem k_Text_tell_105 : decode Y_Text_tell.2.1 105 = .ok (.invokevirtual 92, 3) := by decide +kernel
theorem k_Text_tell_108 : decode Y_Text_tell.2.1 108 = .ok (.ireturn, 1) := by decide +kernel
theorem k_Text_tell_109 : decode Y_Text_tell.2.1 109 = .ok (.aload_n 1, 1) := by decide +kernel
theorem k_Text_tell_110 : decode Y_Text_tell.2.1 110 = .ok (.aload_n 0, 1) := by decide +kernel
theorem k_Text_tell_111 : decode Y_Text_tell.2.1 111 = .ok (.iload_n 2, 1) := by decide +kernel
theorem k_Text_tell_112 : decode Y_Text_tell.2.1 112 = .ok (.iconst 1, 1) := by decide +kernel
theorem k_Text_tell_113 : decode Y_Text_tell.2.1 113 = .ok (.iadd, 1) := by decide +kernel
theorem k_Text_tell_114 : decode Y_Text_tell.2.1 114 = .ok (.invokevirtual 80, 3) := by decide +kernel
theorem k_Text_tell_117 : decode Y_Text_tell.2.1 117 = .ok (.aload_n 0, 1) := by decide +kernel
theorem k_Text_tell_118 : decode Y_Text_tell.2.1 118 = .ok (.iload_n 2, 1) := by decide +kernel
theorem k_Text_tell_119 : decode Y_Text_tell.2.1 119 = .ok (.iconst 2, 1) := by decide +kernel
theorem k_Text_tell_120 : decode Y_Text_tell.2.1 120 = .ok (.iadd, 1) := by decide +kernel
theorem k_Text_tell_121 : decode Y_Text_tell.2.1 121 = .ok (.invokevirtual 80, 3) := by decide +kernel
theorem k_Text_tell_124 : decode Y_Text_tell.2.1 124 = .ok (.invokevirtual 96, 3) := by decide +kernel
theorem k_Text_tell_127 : decode Y_Text_tell.2.1 127 = .ok (.ireturn, 1) := by decide +kernel
theorem k_Text_tell_128 : decode Y_Text_tell.2.1 128 = .ok (.aload_n 1, 1) := by decide +kernel
theorem k_Text_tell_129 : decode Y_Text_tell.2.1 129 = .ok (.aload_n 0, 1) := by decide +kernel
theorem k_Text_tell_130 : decode Y_Text_tell.2.1 130 = .ok (.iload_n 2, 1) := by decide +kernel
theorem k_Text_tell_131 : decode Y_Text_tell.2.1 131 = .ok (.iconst 1, 1) := by decide +kernel
theorem k_Text_tell_132 : decode Y_Text_tell.2.1 132 = .ok (.iadd, 1) := by decide +kernel
theorem k_Text_tell_133 : decode Y_Text_tell.2.1 133 = .ok (.invokevirtual 80, 3) := by decide +kernel
theorem k_Text_tell_136 : decode Y_Text_tell.2.1 136 = .ok (.invokevirtual 99, 3) := by decide +kernel
theorem k_Text_tell_139 : decode Y_Text_tell.2.1 139 = .ok (.ireturn, 1) := by decide +kernel
theorem k_Text_tell_140 : decode Y_Text_tell.2.1 140 = .ok (.iconst 0, 1) := by decide +kernel
theorem k_Text_tell_141 : decode Y_Text_tell.2.1 141 = .ok (.ireturn, 1) := by decide +kernel
theorem k_Text_entry_0 : decode Y_Text_entry.2.1 0 = .ok (.aload_n 0, 1) := by decide +kernel
theorem k_Text_entry_1 : decode Y_Text_entry.2.1 1 = .ok (.iload_n 1, 1) := by decide +kernel
theorem k_Text_entry_2 : decode Y_Text_entry.2.1 2 = .ok (.iconst 1, 1) := by decide +kernel
theorem k_Text_entry_3 : decode Y_Text_entry.2.1 3 = .ok (.iadd, 1) := by decide +kernel
theorem k_Text_entry_4 : decode Y_Text_entry.2.1 4 = .ok (.invokevirtual 52, 3) := by decide +kernel
theorem k_Text_entry_7 : decode Y_Text_entry.2.1 7 = .ok (.ifCond .eq 22, 3) := by decide +kernel
theorem k_Text_entry_10 : decode Y_Text_entry.2.1 10 = .ok (.bipush 10, 2) := by decide +kernel
theorem k_Text_entry_12 : decode Y_Text_entry.2.1 12 = .ok (.aload_n 0, 1) := by decide +kernel
theorem k_Text_entry_13 : decode Y_Text_entry.2.1 13 = .ok (.iload_n 1, 1) := by decide +kernel
theorem k_Text_entry_14 : decode Y_Text_entry.2.1 14 = .ok (.invokevirtual 80, 3) := by decide +kernel
theorem k_Text_entry_17 : decode Y_Text_entry.2.1 17 = .ok (.imul, 1) := by decide +kernel
theorem k_Text_entry_18 : decode Y_Text_entry.2.1 18 = .ok (.aload_n 0, 1) := by decide +kernel
theorem k_Text_entry_19 : decode Y_Text_entry.2.1 19 = .ok (.iload_n 1, 1) := by decide +kernel
theorem k_Text_entry_20 : decode Y_Text_entry.2.1 20 = .ok (.iconst 1, 1) := by decide +kernel
theorem k_Text_entry_21 : decode Y_Text_entry.2.1 21 = .ok (.iadd, 1) := by decide +kernel
theorem k_Text_entry_22 : decode Y_Text_entry.2.1 22 = .ok (.invokevirtual 80, 3) := by decide +kernel
theorem k_Text_entry_25 : decode Y_Text_entry.2.1 25 = .ok (.iadd, 1) := by decide +kernel
theorem k_Text_entry_26 : decode Y_Text_entry.2.1 26 = .ok (.goto 8, 3) := by decide +kernel
theorem k_Text_entry_29 : decode Y_Text_entry.2.1 29 = .ok (.aload_n 0, 1) := by decide +kernel
theorem k_Text_entry_30 : decode Y_Text_entry.2.1 30 = .ok (.iload_n 1, 1) := by decide +kernel
theorem k_Text_entry_31 : decode Y_Text_entry.2.1 31 = .ok (.invokevirtual 80, 3) := by decide +kernel
theorem k_Text_entry_34 : decode Y_Text_entry.2.1 34 = .ok (.ireturn, 1) := by decide +kernel
theorem k_Tune_init_0 : decode Y_Tune_init.2.1 0 = .ok (.aload_n 0, 1) := by decide +kernel
theorem k_Tune_init_1 : decode Y_Tune_init.2.1 1 = .ok (.invokespecial 3, 3) := by decide +kernel
theorem k_Tune_init_4 : decode Y_Tune_init.2.1 4 = .ok (.aload_n 0, 1) := by decide +kernel
theorem k_Tune_init_5 : decode Y_Tune_init.2.1 5 = .ok (.new 9, 3) := by decide +kernel
theorem k_Tune_init_8 : decode Y_Tune_init.2.1 8 = .ok (.dup, 1) := by decide +kernel
theorem k_Tune_init_9 : decode Y_Tune_init.2.1 9 = .ok (.bipush 13, 2) := by decide +kernel
theorem k_Tune_init_11 : decode Y_Tune_init.2.1 11 = .ok (.invokespecial 11, 3) := by decide +kernel
theorem k_Tune_init_14 : decode Y_Tune_init.2.1 14 = .ok (.putfield 14, 3) := by decide +kernel
theorem k_Tune_init_17 : decode Y_Tune_init.2.1 17 = .ok (.aload_n 0, 1) := by decide +kernel
theorem k_Tune_init_18 : decode Y_Tune_init.2.1 18 = .ok (.new 9, 3) := by decide +kernel
theorem k_Tune_init_21 : decode Y_Tune_init.2.1 21 = .ok (.dup, 1) := by decide +kernel
theorem k_Tune_init_22 : decode Y_Tune_init.2.1 22 = .ok (.bipush 13, 2) := by decide +kernel
theorem k_Tune_init_24 : decode Y_Tune_init.2.1 24 = .ok (.invokespecial 11, 3) := by decide +kernel
theorem k_Tune_init_27 : decode Y_Tune_init.2.1 27 = .ok (.putfield 20, 3) := by decide +kernel
theorem k_Tune_init_30 : decode Y_Tune_init.2.1 30 = .ok (.aload_n 0, 1) := by decide +kernel
theorem k_Tune_init_31 : decode Y_Tune_init.2.1 31 = .ok (.new 9, 3) := by decide +kernel
theorem k_Tune_init_34 : decode Y_Tune_init.2.1 34 = .ok (.dup, 1) := by decide +kernel
theorem k_Tune_init_35 : decode Y_Tune_init.2.1 35 = .ok (.bipush 37, 2) := by decide +kernel
theorem k_Tune_init_37 : decode Y_Tune_init.2.1 37 = .ok (.invokespecial 11, 3) := by decide +kernel
theorem k_Tune_init_40 : decode Y_Tune_init.2.1 40 = .ok (.putfield 23, 3) := by decide +kernel
theorem k_Tune_init_43 : decode Y_Tune_init.2.1 43 = .ok (.aload_n 0, 1) := by decide +kernel
theorem k_Tune_init_44 : decode Y_Tune_init.2.1 44 = .ok (.iconst 0, 1) := by decide +kernel
theorem k_Tune_init_45 : decode Y_Tune_init.2.1 45 = .ok (.putfield 26, 3) := by decide +kernel
theorem k_Tune_init_48 : decode Y_Tune_init.2.1 48 = .ok (.return_, 1) := by decide +kernel
theorem k_Tune_notes_0 : decode Y_Tune_notes.2.1 0 = .ok (.aload_n 0, 1) := by decide +kernel
theorem k_Tune_notes_1 : decode Y_Tune_notes.2.1 1 = .ok (.getfield 14, 3) := by decide +kernel
theorem k_Tune_notes_4 : decode Y_Tune_notes.2.1 4 = .ok (.invokevirtual 30, 3) := by decide +kernel
theorem k_Tune_notes_7 : decode Y_Tune_notes.2.1 7 = .ok (.ireturn, 1) := by decide +kernel
theorem k_Tune_has_0 : decode Y_Tune_has.2.1 0 = .ok (.aload_n 0, 1) := by decide +kernel
theorem k_Tune_has_1 : decode Y_Tune_has.2.1 1 = .ok (.getfield 14, 3) := by decide +kernel
theorem k_Tune_has_4 : decode Y_Tune_has.2.1 4 = .ok (.iload_n 1, 1) := by decide +kernel
theorem k_Tune_has_5 : decode Y_Tune_has.2.1 5 = .ok (.invokevirtual 34, 3) := by decide +kernel
theorem k_Tune_has_8 : decode Y_Tune_has.2.1 8 = .ok (.ireturn, 1) := by decide +kernel
theorem k_Tune_pitchOf_0 : decode Y_Tune_pitchOf.2.1 0 = .ok (.aload_n 0, 1) := by decide +kernel
theorem k_Tune_pitchOf_1 : decode Y_Tune_pitchOf.2.1 1 = .ok (.getfield 14, 3) := by decide +kernel
theorem k_Tune_pitchOf_4 : decode Y_Tune_pitchOf.2.1 4 = .ok (.iload_n 1, 1) := by decide +kernel
theorem k_Tune_pitchOf_5 : decode Y_Tune_pitchOf.2.1 5 = .ok (.invokevirtual 38, 3) := by decide +kernel
theorem k_Tune_pitchOf_8 : decode Y_Tune_pitchOf.2.1 8 = .ok (.ireturn, 1) := by decide +kernel
theorem k_Tune_lengthOf_0 : decode Y_Tune_lengthOf.2.1 0 = .ok (.aload_n 0, 1) := by decide +kernel
theorem k_Tune_lengthOf_1 : decode Y_Tune_lengthOf.2.1 1 = .ok (.getfield 20, 3) := by decide +kernel
theorem k_Tune_lengthOf_4 : decode Y_Tune_lengthOf.2.1 4 = .ok (.iload_n 1, 1) := by decide +kernel
theorem k_Tune_lengthOf_5 : decode Y_Tune_lengthOf.2.1 5 = .ok (.invokevirtual 38, 3) := by decide +kernel
theorem k_Tune_lengthOf_8 : decode Y_Tune_lengthOf.2.1 8 = .ok (.ireturn, 1) := by decide +kernel
theorem k_Tune_startOf_0 : decode Y_Tune_startOf.2.1 0 = .ok (.iconst 0, 1) := by decide +kernel
theorem k_Tune_startOf_1 : decode Y_Tune_startOf.2.1 1 = .ok (.istore_n 2, 1) := by decide +kernel
theorem k_Tune_startOf_2 : decode Y_Tune_startOf.2.1 2 = .ok (.iconst 0, 1) := by decide +kernel
theorem k_Tune_startOf_3 : decode Y_Tune_startOf.2.1 3 = .ok (.istore_n 3, 1) := by decide +kernel
theorem k_Tune_startOf_4 : decode Y_Tune_startOf.2.1 4 = .ok (.iload_n 3, 1) := by decide +kernel
theorem k_Tune_startOf_5 : decode Y_Tune_startOf.2.1 5 = .ok (.iload_n 1, 1) := by decide +kernel
theorem k_Tune_startOf_6 : decode Y_Tune_startOf.2.1 6 = .ok (.if_icmp .ge 31, 3) := by decide +kernel
theorem k_Tune_startOf_9 : decode Y_Tune_startOf.2.1 9 = .ok (.iload_n 3, 1) := by decide +kernel
theorem k_Tune_startOf_10 : decode Y_Tune_startOf.2.1 10 = .ok (.aload_n 0, 1) := by decide +kernel
theorem k_Tune_startOf_11 : decode Y_Tune_startOf.2.1 11 = .ok (.getfield 20, 3) := by decide +kernel
theorem k_Tune_startOf_14 : decode Y_Tune_startOf.2.1 14 = .ok (.invokevirtual 30, 3) := by decide +kernel
theorem k_Tune_startOf_17 : decode Y_Tune_startOf.2.1 17 = .ok (.if_icmp .ge 20, 3) := by decide +kernel
theorem k_Tune_startOf_20 : decode Y_Tune_startOf.2.1 20 = .ok (.iload_n 2, 1) := by decide +kernel
theorem k_Tune_startOf_21 : decode Y_Tune_startOf.2.1 21 = .ok (.aload_n 0, 1) := by decide +kernel
theorem k_Tune_startOf_22 : decode Y_Tune_startOf.2.1 22 = .ok (.getfield 20, 3) := by decide +kernel
theorem k_Tune_startOf_25 : decode Y_Tune_startOf.2.1 25 = .ok (.iload_n 3, 1) := by decide +kernel
theorem k_Tune_startOf_26 : decode Y_Tune_startOf.2.1 26 = .ok (.invokevirtual 38, 3) := by decide +kernel
theorem k_Tune_startOf_29 : decode Y_Tune_startOf.2.1 29 = .ok (.iadd, 1) := by decide +kernel
theorem k_Tune_startOf_30 : decode Y_Tune_startOf.2.1 30 = .ok (.istore_n 2, 1) := by decide +kernel
theorem k_Tune_startOf_31 : decode Y_Tune_startOf.2.1 31 = .ok (.iinc 3 1, 3) := by decide +kernel
theorem k_Tune_startOf_34 : decode Y_Tune_startOf.2.1 34 = .ok (.goto (-30), 3) := by decide +kernel
theorem k_Tune_startOf_37 : decode Y_Tune_startOf.2.1 37 = .ok (.iload_n 2, 1) := by decide +kernel
theorem k_Tune_startOf_38 : decode Y_Tune_startOf.2.1 38 = .ok (.ireturn, 1) := by decide +kernel
theorem k_Tune_noteAt_0 : decode Y_Tune_noteAt.2.1 0 = .ok (.aload_n 0, 1) := by decide +kernel
theorem k_Tune_noteAt_1 : decode Y_Tune_noteAt.2.1 1 = .ok (.getfield 23, 3) := by decide +kernel
theorem k_Tune_noteAt_4 : decode Y_Tune_noteAt.2.1 4 = .ok (.iload_n 1, 1) := by decide +kernel
theorem k_Tune_noteAt_5 : decode Y_Tune_noteAt.2.1 5 = .ok (.invokevirtual 38, 3) := by decide +kernel
theorem k_Tune_noteAt_8 : decode Y_Tune_noteAt.2.1 8 = .ok (.ireturn, 1) := by decide +kernel
theorem k_Tune_plainAt_0 : decode Y_Tune_plainAt.2.1 0 = .ok (.aload_n 0, 1) := by decide +kernel
theorem k_Tune_plainAt_1 : decode Y_Tune_plainAt.2.1 1 = .ok (.getfield 14, 3) := by decide +kernel
theorem k_Tune_plainAt_4 : decode Y_Tune_plainAt.2.1 4 = .ok (.aload_n 0, 1) := by decide +kernel
theorem k_Tune_plainAt_5 : decode Y_Tune_plainAt.2.1 5 = .ok (.getfield 23, 3) := by decide +kernel
theorem k_Tune_plainAt_8 : decode Y_Tune_plainAt.2.1 8 = .ok (.iload_n 1, 1) := by decide +kernel
theorem k_Tune_plainAt_9 : decode Y_Tune_plainAt.2.1 9 = .ok (.invokevirtual 38, 3) := by decide +kernel
theorem k_Tune_plainAt_12 : decode Y_Tune_plainAt.2.1 12 = .ok (.invokevirtual 38, 3) := by decide +kernel
theorem k_Tune_plainAt_15 : decode Y_Tune_plainAt.2.1 15 = .ok (.ireturn, 1) := by decide +kernel
theorem k_Tune_setPitch_0 : decode Y_Tune_setPitch.2.1 0 = .ok (.aload_n 0, 1) := by decide +kernel
theorem k_Tune_setPitch_1 : decode Y_Tune_setPitch.2.1 1 = .ok (.getfield 14, 3) := by decide +kernel
theorem k_Tune_setPitch_4 : decode Y_Tune_setPitch.2.1 4 = .ok (.iload_n 1, 1) := by decide +kernel
theorem k_Tune_setPitch_5 : decode Y_Tune_setPitch.2.1 5 = .ok (.iload_n 2, 1) := by decide +kernel
theorem k_Tune_setPitch_6 : decode Y_Tune_setPitch.2.1 6 = .ok (.invokevirtual 42, 3) := by decide +kernel
theorem k_Tune_setPitch_9 : decode Y_Tune_setPitch.2.1 9 = .ok (.return_, 1) := by decide +kernel
theorem k_Tune_add_0 : decode Y_Tune_add.2.1 0 = .ok (.aload_n 0, 1) := by decide +kernel
theorem k_Tune_add_1 : decode Y_Tune_add.2.1 1 = .ok (.getfield 14, 3) := by decide +kernel
theorem k_Tune_add_4 : decode Y_Tune_add.2.1 4 = .ok (.invokevirtual 30, 3) := by decide +kernel
theorem k_Tune_add_7 : decode Y_Tune_add.2.1 7 = .ok (.istore_n 3, 1) := by decide +kernel
theorem k_Tune_add_8 : decode Y_Tune_add.2.1 8 = .ok (.aload_n 0, 1) := by decide +kernel
theorem k_Tune_add_9 : decode Y_Tune_add.2.1 9 = .ok (.getfield 14, 3) := by decide +kernel
theorem k_Tune_add_12 : decode Y_Tune_add.2.1 12 = .ok (.iload_n 1, 1) := by decide +kernel
theorem k_Tune_add_13 : decode Y_Tune_add.2.1 13 = .ok (.invokevirtual 46, 3) := by decide +kernel
theorem k_Tune_add_16 : decode Y_Tune_add.2.1 16 = .ok (.aload_n 0, 1) := by decide +kernel
theorem k_Tune_add_17 : decode Y_Tune_add.2.1 17 = .ok (.getfield 20, 3) := by decide +kernel
theorem k_Tune_add_20 : decode Y_Tune_add.2.1 20 = .ok (.iload_n 2, 1) := by decide +kernel
theorem k_Tune_add_21 : decode Y_Tune_add.2.1 21 = .ok (.invokevirtual 46, 3) := by decide +kernel
theorem k_Tune_add_24 : decode Y_Tune_add.2.1 24 = .ok (.iconst 0, 1) := by decide +kernel
theorem k_Tune_add_25 : decode Y_Tune_add.2.1 25 = .ok (.istore 4, 2) := by decide +kernel
theorem k_Tune_add_27 : decode Y_Tune_add.2.1 27 = .ok (.iload 4, 2) := by decide +kernel
theorem k_Tune_add_29 : decode Y_Tune_add.2.1 29 = .ok (.iload_n 2, 1) := by decide +kernel
theorem k_Tune_add_30 : decode Y_Tune_add.2.1 30 = .ok (.if_icmp .ge 23, 3) := by decide +kernel
theorem k_Tune_add_33 : decode Y_Tune_add.2.1 33 = .ok (.iload 4, 2) := by decide +kernel
theorem k_Tune_add_35 : decode Y_Tune_add.2.1 35 = .ok (.iconst 3, 1) := by decide +kernel
theorem k_Tune_add_36 : decode Y_Tune_add.2.1 36 = .ok (.if_icmp .ge 17, 3) := by decide +kernel
theorem k_Tune_add_39 : decode Y_Tune_add.2.1 39 = .ok (.aload_n 0, 1) := by decide +kernel
theorem k_Tune_add_40 : decode Y_Tune_add.2.1 40 = .ok (.getfield 23, 3) := by decide +kernel
theorem k_Tune_add_43 : decode Y_Tune_add.2.1 43 = .ok (.iload_n 3, 1) := by decide +kernel
theorem k_Tune_add_44 : decode Y_Tune_add.2.1 44 = .ok (.invokevirtual 46, 3) := by decide +kernel
theorem k_Tune_add_47 : decode Y_Tune_add.2.1 47 = .ok (.iinc 4 1, 3) := by decide +kernel
theorem k_Tune_add_50 : decode Y_Tune_add.2.1 50 = .ok (.goto (-23), 3) := by decide +kernel
theorem k_Tune_add_53 : decode Y_Tune_add.2.1 53 = .ok (.aload_n 0, 1) := by decide +kernel
theorem k_Tune_add_54 : decode Y_Tune_add.2.1 54 = .ok (.aload_n 0, 1) := by decide +kernel
theorem k_Tune_add_55 : decode Y_Tune_add.2.1 55 = .ok (.getfield 23, 3) := by decide +kernel
theorem k_Tune_add_58 : decode Y_Tune_add.2.1 58 = .ok (.invokevirtual 30, 3) := by decide +kernel
theorem k_Tune_add_61 : decode Y_Tune_add.2.1 61 = .ok (.putfield 26, 3) := by decide +kernel
theorem k_Tune_add_64 : decode Y_Tune_add.2.1 64 = .ok (.return_, 1) := by decide +kernel
theorem k_Tune_isMirror_0 : decode Y_Tune_isMirror.2.1 0 = .ok (.aload_n 0, 1) := by decide +kernel
theorem k_Tune_isMirror_1 : decode Y_Tune_isMirror.2.1 1 = .ok (.getfield 26, 3) := by decide +kernel
theorem k_Tune_isMirror_4 : decode Y_Tune_isMirror.2.1 4 = .ok (.iconst 1, 1) := by decide +kernel
theorem k_Tune_isMirror_5 : decode Y_Tune_isMirror.2.1 5 = .ok (.isub, 1) := by decide +kernel
theorem k_Tune_isMirror_6 : decode Y_Tune_isMirror.2.1 6 = .ok (.istore_n 1, 1) := by decide +kernel
theorem k_Tune_isMirror_7 : decode Y_Tune_isMirror.2.1 7 = .ok (.iconst 0, 1) := by decide +kernel
theorem k_Tune_isMirror_8 : decode Y_Tune_isMirror.2.1 8 = .ok (.istore_n 2, 1) := by decide +kernel
theorem k_Tune_isMirror_9 : decode Y_Tune_isMirror.2.1 9 = .ok (.iload_n 2, 1) := by decide +kernel
theorem k_Tune_isMirror_10 : decode Y_Tune_isMirror.2.1 10 = .ok (.iload_n 1, 1) := by decide +kernel
theorem k_Tune_isMirror_11 : decode Y_Tune_isMirror.2.1 11 = .ok (.iload_n 2, 1) := by decide +kernel
theorem k_Tune_isMirror_12 : decode Y_Tune_isMirror.2.1 12 = .ok (.isub, 1) := by decide +kernel
theorem k_Tune_isMirror_13 : decode Y_Tune_isMirror.2.1 13 = .ok (.if_icmp .ge 26, 3) := by decide +kernel
theorem k_Tune_isMirror_16 : decode Y_Tune_isMirror.2.1 16 = .ok (.aload_n 0, 1) := by decide +kernel
theorem k_Tune_isMirror_17 : decode Y_Tune_isMirror.2.1 17 = .ok (.iload_n 2, 1) := by decide +kernel
theorem k_Tune_isMirror_18 : decode Y_Tune_isMirror.2.1 18 = .ok (.invokevirtual 49, 3) := by decide +kernel
theorem k_Tune_isMirror_21 : decode Y_Tune_isMirror.2.1 21 = .ok (.aload_n 0, 1) := by decide +kernel
theorem k_Tune_isMirror_22 : decode Y_Tune_isMirror.2.1 22 = .ok (.iload_n 1, 1) := by decide +kernel
theorem k_Tune_isMirror_23 : decode Y_Tune_isMirror.2.1 23 = .ok (.iload_n 2, 1) := by decide +kernel
theorem k_Tune_isMirror_24 : decode Y_Tune_isMirror.2.1 24 = .ok (.isub, 1) := by decide +kernel
theorem k_Tune_isMirror_25 : decode Y_Tune_isMirror.2.1 25 = .ok (.invokevirtual 49, 3) := by decide +kernel
theorem k_Tune_isMirror_28 : decode Y_Tune_isMirror.2.1 28 = .ok (.if_icmp .eq 5, 3) := by decide +kernel
theorem k_Tune_isMirror_31 : decode Y_Tune_isMirror.2.1 31 = .ok (.iconst 0, 1) := by decide +kernel
theorem k_Tune_isMirror_32 : decode Y_Tune_isMirror.2.1 32 = .ok (.ireturn, 1) := by decide +kernel
theorem k_Tune_isMirror_33 : decode Y_Tune_isMirror.2.1 33 = .ok (.iinc 2 1, 3) := by decide +kernel
theorem k_Tune_isMirror_36 : decode Y_Tune_isMirror.2.1 36 = .ok (.goto (-27), 3) := by decide +kernel
theorem k_Tune_isMirror_39 : decode Y_Tune_isMirror.2.1 39 = .ok (.iconst 1, 1) := by decide +kernel
theorem k_Tune_isMirror_40 : decode Y_Tune_isMirror.2.1 40 = .ok (.ireturn, 1) := by decide +kernel
theorem k_Tune_copyFrom_0 : decode Y_Tune_copyFrom.2.1 0 = .ok (.aload_n 1, 1) := by decide +kernel
theorem k_Tune_copyFrom_1 : decode Y_Tune_copyFrom.2.1 1 = .ok (.ifnull 44, 3) := by decide +kernel
theorem k_Tune_copyFrom_4 : decode Y_Tune_copyFrom.2.1 4 = .ok (.aload_n 0, 1) := by decide +kernel
theorem k_Tune_copyFrom_5 : decode Y_Tune_copyFrom.2.1 5 = .ok (.getfield 14, 3) := by decide +kernel
theorem k_Tune_copyFrom_8 : decode Y_Tune_copyFrom.2.1 8 = .ok (.aload_n 1, 1) := by decide +kernel
theorem k_Tune_copyFrom_9 : decode Y_Tune_copyFrom.2.1 9 = .ok (.getfield 14, 3) := by decide +kernel
theorem k_Tune_copyFrom_12 : decode Y_Tune_copyFrom.2.1 12 = .ok (.invokevirtual 52, 3) := by decide +kernel
theorem k_Tune_copyFrom_15 : decode Y_Tune_copyFrom.2.1 15 = .ok (.aload_n 0, 1) := by decide +kernel
theorem k_Tune_copyFrom_16 : decode Y_Tune_copyFrom.2.1 16 = .ok (.getfield 20, 3) := by decide +kernel
theorem k_Tune_copyFrom_19 : decode Y_Tune_copyFrom.2.1 19 = .ok (.aload_n 1, 1) := by decide +kernel
theorem k_Tune_copyFrom_20 : decode Y_Tune_copyFrom.2.1 20 = .ok (.getfield 20, 3) := by decide +kernel
theorem k_Tune_copyFrom_23 : decode Y_Tune_copyFrom.2.1 23 = .ok (.invokevirtual 52, 3) := by decide +kernel
theorem k_Tune_copyFrom_26 : decode Y_Tune_copyFrom.2.1 26 = .ok (.aload_n 0, 1) := by decide +kernel
theorem k_Tune_copyFrom_27 : decode Y_Tune_copyFrom.2.1 27 = .ok (.getfield 23, 3) := by decide +kernel
theorem k_Tune_copyFrom_30 : decode Y_Tune_copyFrom.2.1 30 = .ok (.aload_n 1, 1) := by decide +kernel
theorem k_Tune_copyFrom_31 : decode Y_Tune_copyFrom.2.1 31 = .ok (.getfield 23, 3) := by decide +kernel
theorem k_Tune_copyFrom_34 : decode Y_Tune_copyFrom.2.1 34 = .ok (.invokevirtual 52, 3) := by decide +kernel
theorem k_Tune_copyFrom_37 : decode Y_Tune_copyFrom.2.1 37 = .ok (.aload_n 0, 1) := by decide +kernel
theorem k_Tune_copyFrom_38 : decode Y_Tune_copyFrom.2.1 38 = .ok (.aload_n 1, 1) := by decide +kernel
theorem k_Tune_copyFrom_39 : decode Y_Tune_copyFrom.2.1 39 = .ok (.getfield 26, 3) := by decide +kernel
theorem k_Tune_copyFrom_42 : decode Y_Tune_copyFrom.2.1 42 = .ok (.putfield 26, 3) := by decide +kernel
theorem k_Tune_copyFrom_45 : decode Y_Tune_copyFrom.2.1 45 = .ok (.return_, 1) := by decide +kernel
theorem k_Walks_init_0 : decode Y_Walks_init.2.1 0 = .ok (.aload_n 0, 1) := by decide +kernel
theorem k_Walks_init_1 : decode Y_Walks_init.2.1 1 = .ok (.invokespecial 3, 3) := by decide +kernel
theorem k_Walks_init_4 : decode Y_Walks_init.2.1 4 = .ok (.aload_n 0, 1) := by decide +kernel
theorem k_Walks_init_5 : decode Y_Walks_init.2.1 5 = .ok (.bipush 7, 2) := by decide +kernel
theorem k_Walks_init_7 : decode Y_Walks_init.2.1 7 = .ok (.newarray .long, 2) := by decide +kernel
theorem k_Walks_init_9 : decode Y_Walks_init.2.1 9 = .ok (.putfield 9, 3) := by decide +kernel
theorem k_Walks_init_12 : decode Y_Walks_init.2.1 12 = .ok (.aload_n 0, 1) := by decide +kernel
theorem k_Walks_init_13 : decode Y_Walks_init.2.1 13 = .ok (.bipush 7, 2) := by decide +kernel
theorem k_Walks_init_15 : decode Y_Walks_init.2.1 15 = .ok (.newarray .long, 2) := by decide +kernel
theorem k_Walks_init_17 : decode Y_Walks_init.2.1 17 = .ok (.putfield 15, 3) := by decide +kernel
theorem k_Walks_init_20 : decode Y_Walks_init.2.1 20 = .ok (.return_, 1) := by decide +kernel
theorem k_Walks_tunesAgreeing_0 : decode Y_Walks_tunesAgreeing.2.1 0 = .ok (.iload_n 2, 1) := by decide +kernel
theorem k_Walks_tunesAgreeing_1 : decode Y_Walks_tunesAgreeing.2.1 1 = .ok (.iconst 1, 1) := by decide +kernel
theorem k_Walks_tunesAgreeing_2 : decode Y_Walks_tunesAgreeing.2.1 2 = .ok (.if_icmp .ge 5, 3) := by decide +kernel
theorem k_Walks_tunesAgreeing_5 : decode Y_Walks_tunesAgreeing.2.1 5 = .ok (.lconst 0, 1) := by decide +kernel
theorem k_Walks_tunesAgreeing_6 : decode Y_Walks_tunesAgreeing.2.1 6 = .ok (.lreturn, 1) := by decide +kernel
theorem k_Walks_tunesAgreeing_7 : decode Y_Walks_tunesAgreeing.2.1 7 = .ok (.lconst 1, 1) := by decide +kernel
theorem k_Walks_tunesAgreeing_8 : decode Y_Walks_tunesAgreeing.2.1 8 = .ok (.lstore 4, 2) := by decide +kernel
theorem k_Walks_tunesAgreeing_10 : decode Y_Walks_tunesAgreeing.2.1 10 = .ok (.iconst 0, 1) := by decide +kernel
theorem k_Walks_tunesAgreeing_11 : decode Y_Walks_tunesAgreeing.2.1 11 = .ok (.istore 6, 2) := by decide +kernel
theorem k_Walks_tunesAgreeing_13 : decode Y_Walks_tunesAgreeing.2.1 13 = .ok (.iload 6, 2) := by decide +kernel
theorem k_Walks_tunesAgreeing_15 : decode Y_Walks_tunesAgreeing.2.1 15 = .ok (.iload_n 2, 1) := by decide +kernel
theorem k_Walks_tunesAgreeing_16 : decode Y_Walks_tunesAgreeing.2.1 16 = .ok (.if_icmp .ge 35, 3) := by decide +kernel
theorem k_Walks_tunesAgreeing_19 : decode Y_Walks_tunesAgreeing.2.1 19 = .ok (.iload 6, 2) := by decide +kernel
theorem k_Walks_tunesAgreeing_21 : decode Y_Walks_tunesAgreeing.2.1 21 = .ok (.iload_n 1, 1) := by decide +kernel
theorem k_Walks_tunesAgreeing_22 : decode Y_Walks_tunesAgreeing.2.1 22 = .ok (.if_icmp .ge 29, 3) := by decide +kernel
theorem k_Walks_tunesAgreeing_25 : decode Y_Walks_tunesAgreeing.2.1 25 = .ok (.lload 4, 2) := by decide +kernel
theorem k_Walks_tunesAgreeing_27 : decode Y_Walks_tunesAgreeing.2.1 27 = .ok (.aload_n 0, 1) := by decide +kernel
theorem k_Walks_tunesAgreeing_28 : decode Y_Walks_tunesAgreeing.2.1 28 = .ok (.iload_n 1, 1) := by decide +kernel
theorem k_Walks_tunesAgreeing_29 : decode Y_Walks_tunesAgreeing.2.1 29 = .ok (.iconst 1, 1) := by decide +kernel
theorem k_Walks_tunesAgreeing_30 : decode Y_Walks_tunesAgreeing.2.1 30 = .ok (.isub, 1) := by decide +kernel
theorem k_Walks_tunesAgreeing_31 : decode Y_Walks_tunesAgreeing.2.1 31 = .ok (.iload 6, 2) := by decide +kernel
theorem k_Walks_tunesAgreeing_33 : decode Y_Walks_tunesAgreeing.2.1 33 = .ok (.isub, 1) := by decide +kernel
theorem k_Walks_tunesAgreeing_34 : decode Y_Walks_tunesAgreeing.2.1 34 = .ok (.iload_n 2, 1) := by decide +kernel
theorem k_Walks_tunesAgreeing_35 : decode Y_Walks_tunesAgreeing.2.1 35 = .ok (.idiv, 1) := by decide +kernel
theorem k_Walks_tunesAgreeing_36 : decode Y_Walks_tunesAgreeing.2.1 36 = .ok (.iconst 1, 1) := by decide +kernel
theorem k_Walks_tunesAgreeing_37 : decode Y_Walks_tunesAgreeing.2.1 37 = .ok (.iadd, 1) := by decide +kernel
theorem k_Walks_tunesAgreeing_38 : decode Y_Walks_tunesAgreeing.2.1 38 = .ok (.iload_n 3, 1) := by decide +kernel
theorem k_Walks_tunesAgreeing_39 : decode Y_Walks_tunesAgreeing.2.1 39 = .ok (.invokevirtual 18, 3) := by decide +kernel
theorem k_Walks_tunesAgreeing_42 : decode Y_Walks_tunesAgreeing.2.1 42 = .ok (.lmul, 1) := by decide +kernel
theorem k_Walks_tunesAgreeing_43 : decode Y_Walks_tunesAgreeing.2.1 43 = .ok (.lstore 4, 2) := by decide +kernel
theorem k_Walks_tunesAgreeing_45 : decode Y_Walks_tunesAgreeing.2.1 45 = .ok (.iinc 6 1, 3) := by decide +kernel
theorem k_Walks_tunesAgreeing_48 : decode Y_Walks_tunesAgreeing.2.1 48 = .ok (.goto (-35), 3) := by decide +kernel
theorem k_Walks_tunesAgreeing_51 : decode Y_Walks_tunesAgreeing.2.1 51 = .ok (.lload 4, 2) := by decide +kernel
theorem k_Walks_tunesAgreeing_53 : decode Y_Walks_tunesAgreeing.2.1 53 = .ok (.lreturn, 1) := by decide +kernel
theorem k_Walks_chainsOf_0 : decode Y_Walks_chainsOf.2.1 0 = .ok (.iconst 0, 1) := by decide +kernel
theorem k_Walks_chainsOf_1 : decode Y_Walks_chainsOf.2.1 1 = .ok (.istore_n 3, 1) := by decide +kernel
theorem k_Walks_chainsOf_2 : decode Y_Walks_chainsOf.2.1 2 = .ok (.iload_n 3, 1) := by decide +kernel
theorem k_Walks_chainsOf_3 : decode Y_Walks_chainsOf.2.1 3 = .ok (.bipush 7, 2) := by decide +kernel
theorem k_Walks_chainsOf_5 : decode Y_Walks_chainsOf.2.1 5 = .ok (.if_icmp .ge 25, 3) := by decide +kernel
theorem k_Walks_chainsOf_8 : decode Y_Walks_chainsOf.2.1 8 = .ok (.iload_n 3, 1) := by decide +kernel
theorem k_Walks_chainsOf_9 : decode Y_Walks_chainsOf.2.1 9 = .ok (.aload_n 0, 1) := by decide +kernel
theorem k_Walks_chainsOf_10 : decode Y_Walks_chainsOf.2.1 10 = .ok (.getfield 9, 3) := by decide +kernel
theorem k_Walks_chainsOf_13 : decode Y_Walks_chainsOf.2.1 13 = .ok (.arraylength, 1) := by decide +kernel
theorem k_Walks_chainsOf_14 : decode Y_Walks_chainsOf.2.1 14 = .ok (.if_icmp .ge 16, 3) := by decide +kernel
theorem k_Walks_chainsOf_17 : decode Y_Walks_chainsOf.2.1 17 = .ok (.aload_n 0, 1) := by decide +kernel
theorem k_Walks_chainsOf_18 : decode Y_Walks_chainsOf.2.1 18 = .ok (.getfield 9, 3) := by decide +kernel
theorem k_Walks_chainsOf_21 : decode Y_Walks_chainsOf.2.1 21 = .ok (.iload_n 3, 1) := by decide +kernel
theorem k_Walks_chainsOf_22 : decode Y_Walks_chainsOf.2.1 22 = .ok (.lconst 1, 1) := by decide +kernel
theorem k_Walks_chainsOf_23 : decode Y_Walks_chainsOf.2.1 23 = .ok (.lastore, 1) := by decide +kernel
theorem k_Walks_chainsOf_24 : decode Y_Walks_chainsOf.2.1 24 = .ok (.iinc 3 1, 3) := by decide +kernel
theorem k_Walks_chainsOf_27 : decode Y_Walks_chainsOf.2.1 27 = .ok (.goto (-25), 3) := by decide +kernel
theorem k_Walks_chainsOf_30 : decode Y_Walks_chainsOf.2.1 30 = .ok (.iconst 1, 1) := by decide +kernel
theorem k_Walks_chainsOf_31 : decode Y_Walks_chainsOf.2.1 31 = .ok (.istore_n 3, 1) := by decide +kernel
theorem k_Walks_chainsOf_32 : decode Y_Walks_chainsOf.2.1 32 = .ok (.iload_n 3, 1) := by decide +kernel
theorem k_Walks_chainsOf_33 : decode Y_Walks_chainsOf.2.1 33 = .ok (.iload_n 1, 1) := by decide +kernel
theorem k_Walks_chainsOf_34 : decode Y_Walks_chainsOf.2.1 34 = .ok (.if_icmp .ge 14, 3) := by decide +kernel
theorem k_Walks_chainsOf_37 : decode Y_Walks_chainsOf.2.1 37 = .ok (.aload_n 0, 1) := by decide +kernel
theorem k_Walks_chainsOf_38 : decode Y_Walks_chainsOf.2.1 38 = .ok (.iload_n 2, 1) := by decide +kernel
theorem k_Walks_chainsOf_39 : decode Y_Walks_chainsOf.2.1 39 = .ok (.invokevirtual 22, 3) := by decide +kernel
theorem k_Walks_chainsOf_42 : decode Y_Walks_chainsOf.2.1 42 = .ok (.iinc 3 1, 3) := by decide +kernel
theorem k_Walks_chainsOf_45 : decode Y_Walks_chainsOf.2.1 45 = .ok (.goto (-13), 3) := by decide +kernel
theorem k_Walks_chainsOf_48 : decode Y_Walks_chainsOf.2.1 48 = .ok (.lconst 0, 1) := by decide +kernel
theorem k_Walks_chainsOf_49 : decode Y_Walks_chainsOf.2.1 49 = .ok (.lstore_n 3, 1) := by decide +kernel
theorem k_Walks_chainsOf_50 : decode Y_Walks_chainsOf.2.1 50 = .ok (.iconst 0, 1) := by decide +kernel
theorem k_Walks_chainsOf_51 : decode Y_Walks_chainsOf.2.1 51 = .ok (.istore 5, 2) := by decide +kernel
theorem k_Walks_chainsOf_53 : decode Y_Walks_chainsOf.2.1 53 = .ok (.iload 5, 2) := by decide +kernel
theorem k_Walks_chainsOf_55 : decode Y_Walks_chainsOf.2.1 55 = .ok (.bipush 7, 2) := by decide +kernel
theorem k_Walks_chainsOf_57 : decode Y_Walks_chainsOf.2.1 57 = .ok (.if_icmp .ge 29, 3) := by decide +kernel
theorem k_Walks_chainsOf_60 : decode Y_Walks_chainsOf.2.1 60 = .ok (.iload 5, 2) := by decide +kernel
theorem k_Walks_chainsOf_62 : decode Y_Walks_chainsOf.2.1 62 = .ok (.aload_n 0, 1) := by decide +kernel
theorem k_Walks_chainsOf_63 : decode Y_Walks_chainsOf.2.1 63 = .ok (.getfield 9, 3) := by decide +kernel
theorem k_Walks_chainsOf_66 : decode Y_Walks_chainsOf.2.1 66 = .ok (.arraylength, 1) := by decide +kernel
theorem k_Walks_chainsOf_67 : decode Y_Walks_chainsOf.2.1 67 = .ok (.if_icmp .ge 19, 3) := by decide +kernel
theorem k_Walks_chainsOf_70 : decode Y_Walks_chainsOf.2.1 70 = .ok (.lload_n 3, 1) := by decide +kernel
theorem k_Walks_chainsOf_71 : decode Y_Walks_chainsOf.2.1 71 = .ok (.aload_n 0, 1) := by decide +kernel
theorem k_Walks_chainsOf_72 : decode Y_Walks_chainsOf.2.1 72 = .ok (.getfield 9, 3) := by decide +kernel
theorem k_Walks_chainsOf_75 : decode Y_Walks_chainsOf.2.1 75 = .ok (.iload 5, 2) := by decide +kernel
theorem k_Walks_chainsOf_77 : decode Y_Walks_chainsOf.2.1 77 = .ok (.laload, 1) := by decide +kernel
theorem k_Walks_chainsOf_78 : decode Y_Walks_chainsOf.2.1 78 = .ok (.ladd, 1) := by decide +kernel
theorem k_Walks_chainsOf_79 : decode Y_Walks_chainsOf.2.1 79 = .ok (.lstore_n 3, 1) := by decide +kernel
theorem k_Walks_chainsOf_80 : decode Y_Walks_chainsOf.2.1 80 = .ok (.iinc 5 1, 3) := by decide +kernel
theorem k_Walks_chainsOf_83 : decode Y_Walks_chainsOf.2.1 83 = .ok (.goto (-30), 3) := by decide +kernel
theorem k_Walks_chainsOf_86 : decode Y_Walks_chainsOf.2.1 86 = .ok (.lload_n 3, 1) := by decide +kernel
theorem k_Walks_chainsOf_87 : decode Y_Walks_chainsOf.2.1 87 = .ok (.lreturn, 1) := by decide +kernel
theorem k_Walks_lengthen_0 : decode Y_Walks_lengthen.2.1 0 = .ok (.iconst 0, 1) := by decide +kernel
theorem k_Walks_lengthen_1 : decode Y_Walks_lengthen.2.1 1 = .ok (.istore_n 2, 1) := by decide +kernel
theorem k_Walks_lengthen_2 : decode Y_Walks_lengthen.2.1 2 = .ok (.iload_n 2, 1) := by decide +kernel
theorem k_Walks_lengthen_3 : decode Y_Walks_lengthen.2.1 3 = .ok (.bipush 7, 2) := by decide +kernel
theorem k_Walks_lengthen_5 : decode Y_Walks_lengthen.2.1 5 = .ok (.if_icmp .ge 73, 3) := by decide +kernel
theorem k_Walks_lengthen_8 : decode Y_Walks_lengthen.2.1 8 = .ok (.iload_n 2, 1) := by decide +kernel
theorem k_Walks_lengthen_9 : decode Y_Walks_lengthen.2.1 9 = .ok (.aload_n 0, 1) := by decide +kernel
theorem k_Walks_lengthen_10 : decode Y_Walks_lengthen.2.1 10 = .ok (.getfield 15, 3) := by decide +kernel
theorem k_Walks_lengthen_13 : decode Y_Walks_lengthen.2.1 13 = .ok (.arraylength, 1) := by decide +kernel
theorem k_Walks_lengthen_14 : decode Y_Walks_lengthen.2.1 14 = .ok (.if_icmp .ge 64, 3) := by decide +kernel
theorem k_Walks_lengthen_17 : decode Y_Walks_lengthen.2.1 17 = .ok (.aload_n 0, 1) := by decide +kernel
theorem k_Walks_lengthen_18 : decode Y_Walks_lengthen.2.1 18 = .ok (.getfield 15, 3) := by decide +kernel
theorem k_Walks_lengthen_21 : decode Y_Walks_lengthen.2.1 21 = .ok (.iload_n 2, 1) := by decide +kernel
theorem k_Walks_lengthen_22 : decode Y_Walks_lengthen.2.1 22 = .ok (.lconst 0, 1) := by decide +kernel
theorem k_Walks_lengthen_23 : decode Y_Walks_lengthen.2.1 23 = .ok (.lastore, 1) := by decide +kernel
theorem k_Walks_lengthen_24 : decode Y_Walks_lengthen.2.1 24 = .ok (.iconst 0, 1) := by decide +kernel
theorem k_Walks_lengthen_25 : decode Y_Walks_lengthen.2.1 25 = .ok (.istore_n 3, 1) := by decide +kernel
theorem k_Walks_lengthen_26 : decode Y_Walks_lengthen.2.1 26 = .ok (.iload_n 3, 1) := by decide +kernel
theorem k_Walks_lengthen_27 : decode Y_Walks_lengthen.2.1 27 = .ok (.bipush 7, 2) := by decide +kernel
theorem k_Walks_lengthen_29 : decode Y_Walks_lengthen.2.1 29 = .ok (.if_icmp .ge 43, 3) := by decide +kernel
theorem k_Walks_lengthen_32 : decode Y_Walks_lengthen.2.1 32 = .ok (.iload_n 3, 1) := by decide +kernel
theorem k_Walks_lengthen_33 : decode Y_Walks_lengthen.2.1 33 = .ok (.aload_n 0, 1) := by decide +kernel
theorem k_Walks_lengthen_34 : decode Y_Walks_lengthen.2.1 34 = .ok (.getfield 9, 3) := by decide +kernel
theorem k_Walks_lengthen_37 : decode Y_Walks_lengthen.2.1 37 = .ok (.arraylength, 1) := by decide +kernel
theorem k_Walks_lengthen_38 : decode Y_Walks_lengthen.2.1 38 = .ok (.if_icmp .ge 34, 3) := by decide +kernel
theorem k_Walks_lengthen_41 : decode Y_Walks_lengthen.2.1 41 = .ok (.iload_n 1, 1) := by decide +kernel
theorem k_Walks_lengthen_42 : decode Y_Walks_lengthen.2.1 42 = .ok (.iload_n 2, 1) := by decide +kernel
theorem k_Walks_lengthen_43 : decode Y_Walks_lengthen.2.1 43 = .ok (.iload_n 3, 1) := by decide +kernel
theorem k_Walks_lengthen_44 : decode Y_Walks_lengthen.2.1 44 = .ok (.isub, 1) := by decide +kernel
theorem k_Walks_lengthen_45 : decode Y_Walks_lengthen.2.1 45 = .ok (.invokestatic 26, 3) := by decide +kernel
theorem k_Walks_lengthen_48 : decode Y_Walks_lengthen.2.1 48 = .ok (.ifCond .eq 18, 3) := by decide +kernel
theorem k_Walks_lengthen_51 : decode Y_Walks_lengthen.2.1 51 = .ok (.aload_n 0, 1) := by decide +kernel
theorem k_Walks_lengthen_52 : decode Y_Walks_lengthen.2.1 52 = .ok (.getfield 15, 3) := by decide +kernel
theorem k_Walks_lengthen_55 : decode Y_Walks_lengthen.2.1 55 = .ok (.iload_n 2, 1) := by decide +kernel
theorem k_Walks_lengthen_56 : decode Y_Walks_lengthen.2.1 56 = .ok (.dup2, 1) := by decide +kernel
theorem k_Walks_lengthen_57 : decode Y_Walks_lengthen.2.1 57 = .ok (.laload, 1) := by decide +kernel
theorem k_Walks_lengthen_58 : decode Y_Walks_lengthen.2.1 58 = .ok (.aload_n 0, 1) := by decide +kernel
theorem k_Walks_lengthen_59 : decode Y_Walks_lengthen.2.1 59 = .ok (.getfield 9, 3) := by decide +kernel
theorem k_Walks_lengthen_62 : decode Y_Walks_lengthen.2.1 62 = .ok (.iload_n 3, 1) := by decide +kernel
theorem k_Walks_lengthen_63 : decode Y_Walks_lengthen.2.1 63 = .ok (.laload, 1) := by decide +kernel
theorem k_Walks_lengthen_64 : decode Y_Walks_lengthen.2.1 64 = .ok (.ladd, 1) := by decide +kernel
theorem k_Walks_lengthen_65 : decode Y_Walks_lengthen.2.1 65 = .ok (.lastore, 1) := by decide +kernel
theorem k_Walks_lengthen_66 : decode Y_Walks_lengthen.2.1 66 = .ok (.iinc 3 1, 3) := by decide +kernel
theorem k_Walks_lengthen_69 : decode Y_Walks_lengthen.2.1 69 = .ok (.goto (-43), 3) := by decide +kernel
theorem k_Walks_lengthen_72 : decode Y_Walks_lengthen.2.1 72 = .ok (.iinc 2 1, 3) := by decide +kernel
theorem k_Walks_lengthen_75 : decode Y_Walks_lengthen.2.1 75 = .ok (.goto (-73), 3) := by decide +kernel
theorem k_Walks_lengthen_78 : decode Y_Walks_lengthen.2.1 78 = .ok (.iconst 0, 1) := by decide +kernel
theorem k_Walks_lengthen_79 : decode Y_Walks_lengthen.2.1 79 = .ok (.istore_n 2, 1) := by decide +kernel
theorem k_Walks_lengthen_80 : decode Y_Walks_lengthen.2.1 80 = .ok (.iload_n 2, 1) := by decide +kernel
theorem k_Walks_lengthen_81 : decode Y_Walks_lengthen.2.1 81 = .ok (.aload_n 0, 1) := by decide +kernel
theorem k_Walks_lengthen_82 : decode Y_Walks_lengthen.2.1 82 = .ok (.getfield 15, 3) := by decide +kernel
theorem k_Walks_lengthen_85 : decode Y_Walks_lengthen.2.1 85 = .ok (.arraylength, 1) := by decide +kernel
theorem k_Walks_lengthen_86 : decode Y_Walks_lengthen.2.1 86 = .ok (.if_icmp .ge 30, 3) := by decide +kernel
theorem k_Walks_lengthen_89 : decode Y_Walks_lengthen.2.1 89 = .ok (.iload_n 2, 1) := by decide +kernel
theorem k_Walks_lengthen_90 : decode Y_Walks_lengthen.2.1 90 = .ok (.aload_n 0, 1) := by decide +kernel
theorem k_Walks_lengthen_91 : decode Y_Walks_lengthen.2.1 91 = .ok (.getfield 9, 3) := by decide +kernel
theorem k_Walks_lengthen_94 : decode Y_Walks_lengthen.2.1 94 = .ok (.arraylength, 1) := by decide +kernel
theorem k_Walks_lengthen_95 : decode Y_Walks_lengthen.2.1 95 = .ok (.if_icmp .ge 21, 3) := by decide +kernel
theorem k_Walks_lengthen_98 : decode Y_Walks_lengthen.2.1 98 = .ok (.aload_n 0, 1) := by decide +kernel
theorem k_Walks_lengthen_99 : decode Y_Walks_lengthen.2.1 99 = .ok (.getfield 9, 3) := by decide +kernel
theorem k_Walks_lengthen_102 : decode Y_Walks_lengthen.2.1 102 = .ok (.iload_n 2, 1) := by decide +kernel
theorem k_Walks_lengthen_103 : decode Y_Walks_lengthen.2.1 103 = .ok (.aload_n 0, 1) := by decide +kernel
theorem k_Walks_lengthen_104 : decode Y_Walks_lengthen.2.1 104 = .ok (.getfield 15, 3) := by decide +kernel
theorem k_Walks_lengthen_107 : decode Y_Walks_lengthen.2.1 107 = .ok (.iload_n 2, 1) := by decide +kernel
theorem k_Walks_lengthen_108 : decode Y_Walks_lengthen.2.1 108 = .ok (.laload, 1) := by decide +kernel
theorem k_Walks_lengthen_109 : decode Y_Walks_lengthen.2.1 109 = .ok (.lastore, 1) := by decide +kernel
theorem k_Walks_lengthen_110 : decode Y_Walks_lengthen.2.1 110 = .ok (.iinc 2 1, 3) := by decide +kernel
theorem k_Walks_lengthen_113 : decode Y_Walks_lengthen.2.1 113 = .ok (.goto (-33), 3) := by decide +kernel
theorem k_Walks_lengthen_116 : decode Y_Walks_lengthen.2.1 116 = .ok (.return_, 1) := by decide +kernel
theorem k_Main_init_0 : decode Y_Main_init.2.1 0 = .ok (.aload_n 0, 1) := by decide +kernel
theorem k_Main_init_1 : decode Y_Main_init.2.1 1 = .ok (.invokespecial 1, 3) := by decide +kernel
theorem k_Main_init_4 : decode Y_Main_init.2.1 4 = .ok (.aload_n 0, 1) := by decide +kernel
theorem k_Main_init_5 : decode Y_Main_init.2.1 5 = .ok (.new 7, 3) := by decide +kernel
theorem k_Main_init_8 : decode Y_Main_init.2.1 8 = .ok (.dup, 1) := by decide +kernel
theorem k_Main_init_9 : decode Y_Main_init.2.1 9 = .ok (.invokespecial 9, 3) := by decide +kernel
theorem k_Main_init_12 : decode Y_Main_init.2.1 12 = .ok (.putfield 10, 3) := by decide +kernel
theorem k_Main_init_15 : decode Y_Main_init.2.1 15 = .ok (.aload_n 0, 1) := by decide +kernel
theorem k_Main_init_16 : decode Y_Main_init.2.1 16 = .ok (.new 7, 3) := by decide +kernel
theorem k_Main_init_19 : decode Y_Main_init.2.1 19 = .ok (.dup, 1) := by decide +kernel
theorem k_Main_init_20 : decode Y_Main_init.2.1 20 = .ok (.invokespecial 9, 3) := by decide +kernel
theorem k_Main_init_23 : decode Y_Main_init.2.1 23 = .ok (.putfield 16, 3) := by decide +kernel
theorem k_Main_init_26 : decode Y_Main_init.2.1 26 = .ok (.aload_n 0, 1) := by decide +kernel
theorem k_Main_init_27 : decode Y_Main_init.2.1 27 = .ok (.iconst 0, 1) := by decide +kernel
theorem k_Main_init_28 : decode Y_Main_init.2.1 28 = .ok (.putfield 19, 3) := by decide +kernel
theorem k_Main_init_31 : decode Y_Main_init.2.1 31 = .ok (.aload_n 0, 1) := by decide +kernel
theorem k_Main_init_32 : decode Y_Main_init.2.1 32 = .ok (.new 23, 3) := by decide +kernel
theorem k_Main_init_35 : decode Y_Main_init.2.1 35 = .ok (.dup, 1) := by decide +kernel
theorem k_Main_init_36 : decode Y_Main_init.2.1 36 = .ok (.invokespecial 25, 3) := by decide +kernel
theorem k_Main_init_39 : decode Y_Main_init.2.1 39 = .ok (.putfield 26, 3) := by decide +kernel
theorem k_Main_init_42 : decode Y_Main_init.2.1 42 = .ok (.aload_n 0, 1) := by decide +kernel
theorem k_Main_init_43 : decode Y_Main_init.2.1 43 = .ok (.new 30, 3) := by decide +kernel
theorem k_Main_init_46 : decode Y_Main_init.2.1 46 = .ok (.dup, 1) := by decide +kernel
theorem k_Main_init_47 : decode Y_Main_init.2.1 47 = .ok (.invokespecial 32, 3) := by decide +kernel
theorem k_Main_init_50 : decode Y_Main_init.2.1 50 = .ok (.putfield 33, 3) := by decide +kernel
theorem k_Main_init_53 : decode Y_Main_init.2.1 53 = .ok (.aload_n 0, 1) := by decide +kernel
theorem k_Main_init_54 : decode Y_Main_init.2.1 54 = .ok (.new 37, 3) := by decide +kernel
theorem k_Main_init_57 : decode Y_Main_init.2.1 57 = .ok (.dup, 1) := by decide +kernel
theorem k_Main_init_58 : decode Y_Main_init.2.1 58 = .ok (.invokespecial 39, 3) := by decide +kernel
theorem k_Main_init_61 : decode Y_Main_init.2.1 61 = .ok (.putfield 40, 3) := by decide +kernel
theorem k_Main_init_64 : decode Y_Main_init.2.1 64 = .ok (.aload_n 0, 1) := by decide +kernel
theorem k_Main_init_65 : decode Y_Main_init.2.1 65 = .ok (.new 44, 3) := by decide +kernel
theorem k_Main_init_68 : decode Y_Main_init.2.1 68 = .ok (.dup, 1) := by decide +kernel
theorem k_Main_init_69 : decode Y_Main_init.2.1 69 = .ok (.bipush 12, 2) := by decide +kernel
theorem k_Main_init_71 : decode Y_Main_init.2.1 71 = .ok (.invokespecial 46, 3) := by decide +kernel
theorem k_Main_init_74 : decode Y_Main_init.2.1 74 = .ok (.putfield 49, 3) := by decide +kernel
theorem k_Main_init_77 : decode Y_Main_init.2.1 77 = .ok (.aload_n 0, 1) := by decide +kernel
theorem k_Main_init_78 : decode Y_Main_init.2.1 78 = .ok (.new 44, 3) := by decide +kernel
theorem k_Main_init_81 : decode Y_Main_init.2.1 81 = .ok (.dup, 1) := by decide +kernel
theorem k_Main_init_82 : decode Y_Main_init.2.1 82 = .ok (.bipush 6, 2) := by decide +kernel
theorem k_Main_init_84 : decode Y_Main_init.2.1 84 = .ok (.invokespecial 46, 3) := by decide +kernel
theorem k_Main_init_87 : decode Y_Main_init.2.1 87 = .ok (.putfield 53, 3) := by decide +kernel
theorem k_Main_init_90 : decode Y_Main_init.2.1 90 = .ok (.iconst 0, 1) := by decide +kernel
theorem k_Main_init_91 : decode Y_Main_init.2.1 91 = .ok (.istore_n 1, 1) := by decide +kernel
theorem k_Main_init_92 : decode Y_Main_init.2.1 92 = .ok (.iload_n 1, 1) := by decide +kernel
theorem k_Main_init_93 : decode Y_Main_init.2.1 93 = .ok (.bipush 6, 2) := by decide +kernel
theorem k_Main_init_95 : decode Y_Main_init.2.1 95 = .ok (.if_icmp .ge 17, 3) := by decide +kernel
theorem k_Main_init_98 : decode Y_Main_init.2.1 98 = .ok (.aload_n 0, 1) := by decide +kernel
theorem k_Main_init_99 : decode Y_Main_init.2.1 99 = .ok (.getfield 53, 3) := by decide +kernel
theorem k_Main_init_102 : decode Y_Main_init.2.1 102 = .ok (.iconst 0, 1) := by decide +kernel
theorem k_Main_init_103 : decode Y_Main_init.2.1 103 = .ok (.invokevirtual 56, 3) := by decide +kernel
theorem k_Main_init_106 : decode Y_Main_init.2.1 106 = .ok (.iinc 1 1, 3) := by decide +kernel
theorem k_Main_init_109 : decode Y_Main_init.2.1 109 = .ok (.goto (-17), 3) := by decide +kernel
theorem k_Main_init_112 : decode Y_Main_init.2.1 112 = .ok (.return_, 1) := by decide +kernel
theorem k_Main_letter_0 : decode Y_Main_letter.2.1 0 = .ok (.iload_n 1, 1) := by decide +kernel
theorem k_Main_letter_1 : decode Y_Main_letter.2.1 1 = .ok (.iconst 0, 1) := by decide +kernel
theorem k_Main_letter_2 : decode Y_Main_letter.2.1 2 = .ok (.sipush 255, 3) := by decide +kernel
theorem k_Main_letter_5 : decode Y_Main_letter.2.1 5 = .ok (.invokestatic 59, 3) := by decide +kernel
theorem k_Main_letter_8 : decode Y_Main_letter.2.1 8 = .ok (.istore_n 2, 1) := by decide +kernel
theorem k_Main_letter_9 : decode Y_Main_letter.2.1 9 = .ok (.iload_n 2, 1) := by decide +kernel
theorem k_Main_letter_10 : decode Y_Main_letter.2.1 10 = .ok (.ifCond .ne 18, 3) := by decide +kernel
theorem k_Main_letter_13 : decode Y_Main_letter.2.1 13 = .ok (.aload_n 0, 1) := by decide +kernel
theorem k_Main_letter_14 : decode Y_Main_letter.2.1 14 = .ok (.getfield 40, 3) := by decide +kernel
theorem k_Main_letter_17 : decode Y_Main_letter.2.1 17 = .ok (.invokevirtual 63, 3) := by decide +kernel
theorem k_Main_letter_20 : decode Y_Main_letter.2.1 20 = .ok (.bipush 80, 2) := by decide +kernel
theorem k_Main_letter_22 : decode Y_Main_letter.2.1 22 = .ok (.if_icmp .lt 6, 3) := by decide +kernel
theorem k_Main_letter_25 : decode Y_Main_letter.2.1 25 = .ok (.bipush (-6), 2) := by decide +kernel
theorem k_Main_letter_27 : decode Y_Main_letter.2.1 27 = .ok (.istore_n 2, 1) := by decide +kernel
theorem k_Main_letter_28 : decode Y_Main_letter.2.1 28 = .ok (.iload_n 2, 1) := by decide +kernel
theorem k_Main_letter_29 : decode Y_Main_letter.2.1 29 = .ok (.ifCond .eq 11, 3) := by decide +kernel
theorem k_Main_letter_32 : decode Y_Main_letter.2.1 32 = .ok (.aload_n 0, 1) := by decide +kernel
theorem k_Main_letter_33 : decode Y_Main_letter.2.1 33 = .ok (.iload_n 2, 1) := by decide +kernel
theorem k_Main_letter_34 : decode Y_Main_letter.2.1 34 = .ok (.invokevirtual 67, 3) := by decide +kernel
theorem k_Main_letter_37 : decode Y_Main_letter.2.1 37 = .ok (.goto 11, 3) := by decide +kernel
theorem k_Main_letter_40 : decode Y_Main_letter.2.1 40 = .ok (.aload_n 0, 1) := by decide +kernel
theorem k_Main_letter_41 : decode Y_Main_letter.2.1 41 = .ok (.getfield 40, 3) := by decide +kernel
theorem k_Main_letter_44 : decode Y_Main_letter.2.1 44 = .ok (.iload_n 1, 1) := by decide +kernel
theorem k_Main_letter_45 : decode Y_Main_letter.2.1 45 = .ok (.invokevirtual 71, 3) := by decide +kernel
theorem k_Main_letter_48 : decode Y_Main_letter.2.1 48 = .ok (.ireturn, 1) := by decide +kernel
theorem k_Main_canon_0 : decode Y_Main_canon.2.1 0 = .ok (.aload_n 0, 1) := by decide +kernel
theorem k_Main_canon_1 : decode Y_Main_canon.2.1 1 = .ok (.getfield 40, 3) := by decide +kernel
theorem k_Main_canon_4 : decode Y_Main_canon.2.1 4 = .ok (.invokevirtual 73, 3) := by decide +kernel
theorem k_Main_canon_7 : decode Y_Main_canon.2.1 7 = .ok (.istore_n 1, 1) := by decide +kernel
theorem k_Main_canon_8 : decode Y_Main_canon.2.1 8 = .ok (.iload_n 1, 1) := by decide +kernel
theorem k_Main_canon_9 : decode Y_Main_canon.2.1 9 = .ok (.ifCond .ne 36, 3) := by decide +kernel
theorem k_Main_canon_12 : decode Y_Main_canon.2.1 12 = .ok (.aload_n 0, 1) := by decide +kernel
theorem k_Main_canon_13 : decode Y_Main_canon.2.1 13 = .ok (.getfield 26, 3) := by decide +kernel
theorem k_Main_canon_16 : decode Y_Main_canon.2.1 16 = .ok (.aload_n 0, 1) := by decide +kernel
theorem k_Main_canon_17 : decode Y_Main_canon.2.1 17 = .ok (.getfield 10, 3) := by decide +kernel
theorem k_Main_canon_20 : decode Y_Main_canon.2.1 20 = .ok (.invokevirtual 76, 3) := by decide +kernel
theorem k_Main_canon_23 : decode Y_Main_canon.2.1 23 = .ok (.astore_n 2, 1) := by decide +kernel
theorem k_Main_canon_24 : decode Y_Main_canon.2.1 24 = .ok (.aload_n 0, 1) := by decide +kernel
theorem k_Main_canon_25 : decode Y_Main_canon.2.1 25 = .ok (.getfield 40, 3) := by decide +kernel
theorem k_Main_canon_28 : decode Y_Main_canon.2.1 28 = .ok (.aload_n 2, 1) := by decide +kernel
theorem k_Main_canon_29 : decode Y_Main_canon.2.1 29 = .ok (.invokevirtual 80, 3) := by decide +kernel
theorem k_Main_canon_32 : decode Y_Main_canon.2.1 32 = .ok (.istore_n 1, 1) := by decide +kernel
theorem k_Main_canon_33 : decode Y_Main_canon.2.1 33 = .ok (.iload_n 1, 1) := by decide +kernel
theorem k_Main_canon_34 : decode Y_Main_canon.2.1 34 = .ok (.ifCond .le 11, 3) := by decide +kernel
theorem k_Main_canon_37 : decode Y_Main_canon.2.1 37 = .ok (.aload_n 0, 1) := by decide +kernel
theorem k_Main_canon_38 : decode Y_Main_canon.2.1 38 = .ok (.getfield 10, 3) := by decide +kernel
theorem k_Main_canon_41 : decode Y_Main_canon.2.1 41 = .ok (.aload_n 2, 1) := by decide +kernel
theorem k_Main_canon_42 : decode Y_Main_canon.2.1 42 = .ok (.invokevirtual 84, 3) := by decide +kernel
theorem k_Main_canon_45 : decode Y_Main_canon.2.1 45 = .ok (.aload_n 0, 1) := by decide +kernel
theorem k_Main_canon_46 : decode Y_Main_canon.2.1 46 = .ok (.getfield 40, 3) := by decide +kernel
theorem k_Main_canon_49 : decode Y_Main_canon.2.1 49 = .ok (.invokevirtual 88, 3) := by decide +kernel
theorem k_Main_canon_52 : decode Y_Main_canon.2.1 52 = .ok (.iload_n 1, 1) := by decide +kernel
theorem k_Main_canon_53 : decode Y_Main_canon.2.1 53 = .ok (.ireturn, 1) := by decide +kernel
theorem k_Main_note_0 : decode Y_Main_note.2.1 0 = .ok (.aload_n 0, 1) := by decide +kernel
theorem k_Main_note_1 : decode Y_Main_note.2.1 1 = .ok (.getfield 10, 3) := by decide +kernel
theorem k_Main_note_4 : decode Y_Main_note.2.1 4 = .ok (.getfield 91, 3) := by decide +kernel
theorem k_Main_note_7 : decode Y_Main_note.2.1 7 = .ok (.iload_n 1, 1) := by decide +kernel
theorem k_Main_note_8 : decode Y_Main_note.2.1 8 = .ok (.invokevirtual 95, 3) := by decide +kernel
theorem k_Main_note_11 : decode Y_Main_note.2.1 11 = .ok (.ifCond .ne 9, 3) := by decide +kernel
theorem k_Main_note_14 : decode Y_Main_note.2.1 14 = .ok (.aload_n 0, 1) := by decide +kernel
theorem k_Main_note_15 : decode Y_Main_note.2.1 15 = .ok (.iconst (-1), 1) := by decide +kernel
theorem k_Main_note_16 : decode Y_Main_note.2.1 16 = .ok (.invokevirtual 67, 3) := by decide +kernel
theorem k_Main_note_19 : decode Y_Main_note.2.1 19 = .ok (.ireturn, 1) := by decide +kernel
theorem k_Main_note_20 : decode Y_Main_note.2.1 20 = .ok (.iload_n 2, 1) := by decide +kernel
theorem k_Main_note_21 : decode Y_Main_note.2.1 21 = .ok (.tableswitch 63 0 2 #[27, 39, 51], 27) := by decide +kernel
theorem k_Main_note_48 : decode Y_Main_note.2.1 48 = .ok (.aload_n 0, 1) := by decide +kernel
theorem k_Main_note_49 : decode Y_Main_note.2.1 49 = .ok (.getfield 10, 3) := by decide +kernel
theorem k_Main_note_52 : decode Y_Main_note.2.1 52 = .ok (.getfield 91, 3) := by decide +kernel
theorem k_Main_note_55 : decode Y_Main_note.2.1 55 = .ok (.iload_n 1, 1) := by decide +kernel
theorem k_Main_note_56 : decode Y_Main_note.2.1 56 = .ok (.invokevirtual 101, 3) := by decide +kernel
theorem k_Main_note_59 : decode Y_Main_note.2.1 59 = .ok (.ireturn, 1) := by decide +kernel
theorem k_Main_note_60 : decode Y_Main_note.2.1 60 = .ok (.aload_n 0, 1) := by decide +kernel
theorem k_Main_note_61 : decode Y_Main_note.2.1 61 = .ok (.getfield 10, 3) := by decide +kernel
theorem k_Main_note_64 : decode Y_Main_note.2.1 64 = .ok (.getfield 91, 3) := by decide +kernel
theorem k_Main_note_67 : decode Y_Main_note.2.1 67 = .ok (.iload_n 1, 1) := by decide +kernel
theorem k_Main_note_68 : decode Y_Main_note.2.1 68 = .ok (.invokevirtual 104, 3) := by decide +kernel
theorem k_Main_note_71 : decode Y_Main_note.2.1 71 = .ok (.ireturn, 1) := by decide +kernel
theorem k_Main_note_72 : decode Y_Main_note.2.1 72 = .ok (.aload_n 0, 1) := by decide +kernel
theorem k_Main_note_73 : decode Y_Main_note.2.1 73 = .ok (.getfield 10, 3) := by decide +kernel
theorem k_Main_note_76 : decode Y_Main_note.2.1 76 = .ok (.getfield 91, 3) := by decide +kernel
theorem k_Main_note_79 : decode Y_Main_note.2.1 79 = .ok (.iload_n 1, 1) := by decide +kernel
theorem k_Main_note_80 : decode Y_Main_note.2.1 80 = .ok (.invokevirtual 107, 3) := by decide +kernel
theorem k_Main_note_83 : decode Y_Main_note.2.1 83 = .ok (.ireturn, 1) := by decide +kernel
theorem k_Main_note_84 : decode Y_Main_note.2.1 84 = .ok (.aload_n 0, 1) := by decide +kernel
theorem k_Main_note_85 : decode Y_Main_note.2.1 85 = .ok (.bipush (-2), 2) := by decide +kernel
theorem k_Main_note_87 : decode Y_Main_note.2.1 87 = .ok (.invokevirtual 67, 3) := by decide +kernel
theorem k_Main_note_90 : decode Y_Main_note.2.1 90 = .ok (.ireturn, 1) := by decide +kernel
theorem k_Main_voice_0 : decode Y_Main_voice.2.1 0 = .ok (.aload_n 0, 1) := by decide +kernel
theorem k_Main_voice_1 : decode Y_Main_voice.2.1 1 = .ok (.getfield 10, 3) := by decide +kernel
theorem k_Main_voice_4 : decode Y_Main_voice.2.1 4 = .ok (.iload_n 1, 1) := by decide +kernel
theorem k_Main_voice_5 : decode Y_Main_voice.2.1 5 = .ok (.invokevirtual 110, 3) := by decide +kernel
theorem k_Main_voice_8 : decode Y_Main_voice.2.1 8 = .ok (.ifCond .ne 9, 3) := by decide +kernel
theorem k_Main_voice_11 : decode Y_Main_voice.2.1 11 = .ok (.aload_n 0, 1) := by decide +kernel
theorem k_Main_voice_12 : decode Y_Main_voice.2.1 12 = .ok (.iconst (-1), 1) := by decide +kernel
theorem k_Main_voice_13 : decode Y_Main_voice.2.1 13 = .ok (.invokevirtual 67, 3) := by decide +kernel
theorem k_Main_voice_16 : decode Y_Main_voice.2.1 16 = .ok (.ireturn, 1) := by decide +kernel
theorem k_Main_voice_17 : decode Y_Main_voice.2.1 17 = .ok (.iload_n 2, 1) := by decide +kernel
theorem k_Main_voice_18 : decode Y_Main_voice.2.1 18 = .ok (.tableswitch 79 0 4 #[34, 43, 52, 61, 70], 34) := by decide +kernel
theorem k_Main_voice_52 : decode Y_Main_voice.2.1 52 = .ok (.aload_n 0, 1) := by decide +kernel
theorem k_Main_voice_53 : decode Y_Main_voice.2.1 53 = .ok (.getfield 10, 3) := by decide +kernel
theorem k_Main_voice_56 : decode Y_Main_voice.2.1 56 = .ok (.iload_n 1, 1) := by decide +kernel
theorem k_Main_voice_57 : decode Y_Main_voice.2.1 57 = .ok (.invokevirtual 113, 3) := by decide +kernel
theorem k_Main_voice_60 : decode Y_Main_voice.2.1 60 = .ok (.ireturn, 1) := by decide +kernel
theorem k_Main_voice_61 : decode Y_Main_voice.2.1 61 = .ok (.aload_n 0, 1) := by decide +kernel
theorem k_Main_voice_62 : decode Y_Main_voice.2.1 62 = .ok (.getfield 10, 3) := by decide +kernel
theorem k_Main_voice_65 : decode Y_Main_voice.2.1 65 = .ok (.iload_n 1, 1) := by decide +kernel
theorem k_Main_voice_66 : decode Y_Main_voice.2.1 66 = .ok (.invokevirtual 116, 3) := by decide +kernel
theorem k_Main_voice_69 : decode Y_Main_voice.2.1 69 = .ok (.ireturn, 1) := by decide +kernel
theorem k_Main_voice_70 : decode Y_Main_voice.2.1 70 = .ok (.aload_n 0, 1) := by decide +kernel
theorem k_Main_voice_71 : decode Y_Main_voice.2.1 71 = .ok (.getfield 10, 3) := by decide +kernel
theorem k_Main_voice_74 : decode Y_Main_voice.2.1 74 = .ok (.iload_n 1, 1) := by decide +kernel
theorem k_Main_voice_75 : decode Y_Main_voice.2.1 75 = .ok (.invokevirtual 119, 3) := by decide +kernel
theorem k_Main_voice_78 : decode Y_Main_voice.2.1 78 = .ok (.ireturn, 1) := by decide +kernel
theorem k_Main_voice_79 : decode Y_Main_voice.2.1 79 = .ok (.aload_n 0, 1) := by decide +kernel
theorem k_Main_voice_80 : decode Y_Main_voice.2.1 80 = .ok (.getfield 10, 3) := by decide +kernel
theorem k_Main_voice_83 : decode Y_Main_voice.2.1 83 = .ok (.iload_n 1, 1) := by decide +kernel
theorem k_Main_voice_84 : decode Y_Main_voice.2.1 84 = .ok (.invokevirtual 122, 3) := by decide +kernel
theorem k_Main_voice_87 : decode Y_Main_voice.2.1 87 = .ok (.ireturn, 1) := by decide +kernel
theorem k_Main_voice_88 : decode Y_Main_voice.2.1 88 = .ok (.aload_n 0, 1) := by decide +kernel
theorem k_Main_voice_89 : decode Y_Main_voice.2.1 89 = .ok (.getfield 10, 3) := by decide +kernel
theorem k_Main_voice_92 : decode Y_Main_voice.2.1 92 = .ok (.iload_n 1, 1) := by decide +kernel
theorem k_Main_voice_93 : decode Y_Main_voice.2.1 93 = .ok (.invokevirtual 125, 3) := by decide +kernel
theorem k_Main_voice_96 : decode Y_Main_voice.2.1 96 = .ok (.ireturn, 1) := by decide +kernel
theorem k_Main_voice_97 : decode Y_Main_voice.2.1 97 = .ok (.aload_n 0, 1) := by decide +kernel
theorem k_Main_voice_98 : decode Y_Main_voice.2.1 98 = .ok (.bipush (-2), 2) := by decide +kernel
theorem k_Main_voice_100 : decode Y_Main_voice.2.1 100 = .ok (.invokevirtual 67, 3) := by decide +kernel
theorem k_Main_voice_103 : decode Y_Main_voice.2.1 103 = .ok (.ireturn, 1) := by decide +kernel
theorem k_Main_pitch_0 : decode Y_Main_pitch.2.1 0 = .ok (.aload_n 0, 1) := by decide +kernel
theorem k_Main_pitch_1 : decode Y_Main_pitch.2.1 1 = .ok (.getfield 10, 3) := by decide +kernel
theorem k_Main_pitch_4 : decode Y_Main_pitch.2.1 4 = .ok (.getfield 91, 3) := by decide +kernel
theorem k_Main_pitch_7 : decode Y_Main_pitch.2.1 7 = .ok (.iload_n 1, 1) := by decide +kernel
theorem k_Main_pitch_8 : decode Y_Main_pitch.2.1 8 = .ok (.invokevirtual 95, 3) := by decide +kernel
theorem k_Main_pitch_11 : decode Y_Main_pitch.2.1 11 = .ok (.ifCond .eq 13, 3) := by decide +kernel
theorem k_Main_pitch_14 : decode Y_Main_pitch.2.1 14 = .ok (.iload_n 2, 1) := by decide +kernel
theorem k_Main_pitch_15 : decode Y_Main_pitch.2.1 15 = .ok (.iconst 0, 1) := by decide +kernel
theorem k_Main_pitch_16 : decode Y_Main_pitch.2.1 16 = .ok (.bipush 9, 2) := by decide +kernel
theorem k_Main_pitch_18 : decode Y_Main_pitch.2.1 18 = .ok (.invokestatic 59, 3) := by decide +kernel
theorem k_Main_pitch_21 : decode Y_Main_pitch.2.1 21 = .ok (.goto 4, 3) := by decide +kernel
theorem k_Main_pitch_24 : decode Y_Main_pitch.2.1 24 = .ok (.iconst (-1), 1) := by decide +kernel
theorem k_Main_pitch_25 : decode Y_Main_pitch.2.1 25 = .ok (.istore_n 3, 1) := by decide +kernel
theorem k_Main_pitch_26 : decode Y_Main_pitch.2.1 26 = .ok (.iload_n 3, 1) := by decide +kernel
theorem k_Main_pitch_27 : decode Y_Main_pitch.2.1 27 = .ok (.ifCond .eq 9, 3) := by decide +kernel
theorem k_Main_pitch_30 : decode Y_Main_pitch.2.1 30 = .ok (.aload_n 0, 1) := by decide +kernel
theorem k_Main_pitch_31 : decode Y_Main_pitch.2.1 31 = .ok (.iload_n 3, 1) := by decide +kernel
theorem k_Main_pitch_32 : decode Y_Main_pitch.2.1 32 = .ok (.invokevirtual 67, 3) := by decide +kernel
theorem k_Main_pitch_35 : decode Y_Main_pitch.2.1 35 = .ok (.ireturn, 1) := by decide +kernel
theorem k_Main_pitch_36 : decode Y_Main_pitch.2.1 36 = .ok (.aload_n 0, 1) := by decide +kernel
theorem k_Main_pitch_37 : decode Y_Main_pitch.2.1 37 = .ok (.getfield 10, 3) := by decide +kernel
theorem k_Main_pitch_40 : decode Y_Main_pitch.2.1 40 = .ok (.getfield 91, 3) := by decide +kernel
theorem k_Main_pitch_43 : decode Y_Main_pitch.2.1 43 = .ok (.iload_n 1, 1) := by decide +kernel
theorem k_Main_pitch_44 : decode Y_Main_pitch.2.1 44 = .ok (.invokevirtual 101, 3) := by decide +kernel
theorem k_Main_pitch_47 : decode Y_Main_pitch.2.1 47 = .ok (.istore 4, 2) := by decide +kernel
theorem k_Main_pitch_49 : decode Y_Main_pitch.2.1 49 = .ok (.aload_n 0, 1) := by decide +kernel
theorem k_Main_pitch_50 : decode Y_Main_pitch.2.1 50 = .ok (.getfield 10, 3) := by decide +kernel
theorem k_Main_pitch_53 : decode Y_Main_pitch.2.1 53 = .ok (.getfield 91, 3) := by decide +kernel
theorem k_Main_pitch_56 : decode Y_Main_pitch.2.1 56 = .ok (.iload_n 1, 1) := by decide +kernel
theorem k_Main_pitch_57 : decode Y_Main_pitch.2.1 57 = .ok (.iload_n 2, 1) := by decide +kernel
theorem k_Main_pitch_58 : decode Y_Main_pitch.2.1 58 = .ok (.invokevirtual 128, 3) := by decide +kernel
theorem k_Main_pitch_61 : decode Y_Main_pitch.2.1 61 = .ok (.iload 4, 2) := by decide +kernel
theorem k_Main_pitch_63 : decode Y_Main_pitch.2.1 63 = .ok (.ireturn, 1) := by decide +kernel
theorem k_Main_enter_0 : decode Y_Main_enter.2.1 0 = .ok (.aload_n 0, 1) := by decide +kernel
theorem k_Main_enter_1 : decode Y_Main_enter.2.1 1 = .ok (.getfield 10, 3) := by decide +kernel
theorem k_Main_enter_4 : decode Y_Main_enter.2.1 4 = .ok (.iload_n 1, 1) := by decide +kernel
theorem k_Main_enter_5 : decode Y_Main_enter.2.1 5 = .ok (.invokevirtual 110, 3) := by decide +kernel
theorem k_Main_enter_8 : decode Y_Main_enter.2.1 8 = .ok (.ifCond .eq 13, 3) := by decide +kernel
theorem k_Main_enter_11 : decode Y_Main_enter.2.1 11 = .ok (.iload_n 2, 1) := by decide +kernel
theorem k_Main_enter_12 : decode Y_Main_enter.2.1 12 = .ok (.iconst 0, 1) := by decide +kernel
theorem k_Main_enter_13 : decode Y_Main_enter.2.1 13 = .ok (.bipush 60, 2) := by decide +kernel
theorem k_Main_enter_15 : decode Y_Main_enter.2.1 15 = .ok (.invokestatic 59, 3) := by decide +kernel
theorem k_Main_enter_18 : decode Y_Main_enter.2.1 18 = .ok (.goto 4, 3) := by decide +kernel
theorem k_Main_enter_21 : decode Y_Main_enter.2.1 21 = .ok (.iconst (-1), 1) := by decide +kernel
theorem k_Main_enter_22 : decode Y_Main_enter.2.1 22 = .ok (.istore_n 3, 1) := by decide +kernel
theorem k_Main_enter_23 : decode Y_Main_enter.2.1 23 = .ok (.iload_n 3, 1) := by decide +kernel
theorem k_Main_enter_24 : decode Y_Main_enter.2.1 24 = .ok (.ifCond .eq 9, 3) := by decide +kernel
theorem k_Main_enter_27 : decode Y_Main_enter.2.1 27 = .ok (.aload_n 0, 1) := by decide +kernel
theorem k_Main_enter_28 : decode Y_Main_enter.2.1 28 = .ok (.iload_n 3, 1) := by decide +kernel
theorem k_Main_enter_29 : decode Y_Main_enter.2.1 29 = .ok (.invokevirtual 67, 3) := by decide +kernel
theorem k_Main_enter_32 : decode Y_Main_enter.2.1 32 = .ok (.ireturn, 1) := by decide +kernel
theorem k_Main_enter_33 : decode Y_Main_enter.2.1 33 = .ok (.aload_n 0, 1) := by decide +kernel
theorem k_Main_enter_34 : decode Y_Main_enter.2.1 34 = .ok (.getfield 10, 3) := by decide +kernel
theorem k_Main_enter_37 : decode Y_Main_enter.2.1 37 = .ok (.iload_n 1, 1) := by decide +kernel
theorem k_Main_enter_38 : decode Y_Main_enter.2.1 38 = .ok (.invokevirtual 116, 3) := by decide +kernel
theorem k_Main_enter_41 : decode Y_Main_enter.2.1 41 = .ok (.istore 4, 2) := by decide +kernel
theorem k_Main_enter_43 : decode Y_Main_enter.2.1 43 = .ok (.aload_n 0, 1) := by decide +kernel
theorem k_Main_enter_44 : decode Y_Main_enter.2.1 44 = .ok (.getfield 10, 3) := by decide +kernel
theorem k_Main_enter_47 : decode Y_Main_enter.2.1 47 = .ok (.iload_n 1, 1) := by decide +kernel
theorem k_Main_enter_48 : decode Y_Main_enter.2.1 48 = .ok (.iload_n 2, 1) := by decide +kernel
theorem k_Main_enter_49 : decode Y_Main_enter.2.1 49 = .ok (.invokevirtual 132, 3) := by decide +kernel
theorem k_Main_enter_52 : decode Y_Main_enter.2.1 52 = .ok (.iload 4, 2) := by decide +kernel
theorem k_Main_enter_54 : decode Y_Main_enter.2.1 54 = .ok (.ireturn, 1) := by decide +kernel
theorem k_Main_rounds_0 : decode Y_Main_rounds.2.1 0 = .ok (.iload_n 1, 1) := by decide +kernel
theorem k_Main_rounds_1 : decode Y_Main_rounds.2.1 1 = .ok (.iconst 1, 1) := by decide +kernel
theorem k_Main_rounds_2 : decode Y_Main_rounds.2.1 2 = .ok (.iconst 4, 1) := by decide +kernel
theorem k_Main_rounds_3 : decode Y_Main_rounds.2.1 3 = .ok (.invokestatic 59, 3) := by decide +kernel
theorem k_Main_rounds_6 : decode Y_Main_rounds.2.1 6 = .ok (.istore_n 2, 1) := by decide +kernel
theorem k_Main_rounds_7 : decode Y_Main_rounds.2.1 7 = .ok (.iload_n 2, 1) := by decide +kernel
theorem k_Main_rounds_8 : decode Y_Main_rounds.2.1 8 = .ok (.ifCond .eq 9, 3) := by decide +kernel
theorem k_Main_rounds_11 : decode Y_Main_rounds.2.1 11 = .ok (.aload_n 0, 1) := by decide +kernel
theorem k_Main_rounds_12 : decode Y_Main_rounds.2.1 12 = .ok (.iload_n 2, 1) := by decide +kernel
theorem k_Main_rounds_13 : decode Y_Main_rounds.2.1 13 = .ok (.invokevirtual 67, 3) := by decide +kernel
theorem k_Main_rounds_16 : decode Y_Main_rounds.2.1 16 = .ok (.ireturn, 1) := by decide +kernel
theorem k_Main_rounds_17 : decode Y_Main_rounds.2.1 17 = .ok (.aload_n 0, 1) := by decide +kernel
theorem k_Main_rounds_18 : decode Y_Main_rounds.2.1 18 = .ok (.getfield 10, 3) := by decide +kernel
theorem k_Main_rounds_21 : decode Y_Main_rounds.2.1 21 = .ok (.getfield 135, 3) := by decide +kernel
theorem k_Main_rounds_24 : decode Y_Main_rounds.2.1 24 = .ok (.istore_n 3, 1) := by decide +kernel
theorem k_Main_rounds_25 : decode Y_Main_rounds.2.1 25 = .ok (.aload_n 0, 1) := by decide +kernel
theorem k_Main_rounds_26 : decode Y_Main_rounds.2.1 26 = .ok (.getfield 10, 3) := by decide +kernel
theorem k_Main_rounds_29 : decode Y_Main_rounds.2.1 29 = .ok (.iload_n 1, 1) := by decide +kernel
theorem k_Main_rounds_30 : decode Y_Main_rounds.2.1 30 = .ok (.putfield 135, 3) := by decide +kernel
theorem k_Main_rounds_33 : decode Y_Main_rounds.2.1 33 = .ok (.iload_n 3, 1) := by decide +kernel
theorem k_Main_rounds_34 : decode Y_Main_rounds.2.1 34 = .ok (.ireturn, 1) := by decide +kernel
theorem k_Main_step_0 : decode Y_Main_step.2.1 0 = .ok (.iload_n 1, 1) := by decide +kernel
theorem k_Main_step_1 : decode Y_Main_step.2.1 1 = .ok (.iconst 0, 1) := by decide +kernel
theorem k_Main_step_2 : decode Y_Main_step.2.1 2 = .ok (.iconst 2, 1) := by decide +kernel
theorem k_Main_step_3 : decode Y_Main_step.2.1 3 = .ok (.invokestatic 59, 3) := by decide +kernel
theorem k_Main_step_6 : decode Y_Main_step.2.1 6 = .ok (.istore_n 2, 1) := by decide +kernel
theorem k_Main_step_7 : decode Y_Main_step.2.1 7 = .ok (.iload_n 2, 1) := by decide +kernel
theorem k_Main_step_8 : decode Y_Main_step.2.1 8 = .ok (.ifCond .eq 9, 3) := by decide +kernel
theorem k_Main_step_11 : decode Y_Main_step.2.1 11 = .ok (.aload_n 0, 1) := by decide +kernel
theorem k_Main_step_12 : decode Y_Main_step.2.1 12 = .ok (.iload_n 2, 1) := by decide +kernel
theorem k_Main_step_13 : decode Y_Main_step.2.1 13 = .ok (.invokevirtual 67, 3) := by decide +kernel
theorem k_Main_step_16 : decode Y_Main_step.2.1 16 = .ok (.ireturn, 1) := by decide +kernel
theorem k_Main_step_17 : decode Y_Main_step.2.1 17 = .ok (.aload_n 0, 1) := by decide +kernel
theorem k_Main_step_18 : decode Y_Main_step.2.1 18 = .ok (.getfield 10, 3) := by decide +kernel
theorem k_Main_step_21 : decode Y_Main_step.2.1 21 = .ok (.getfield 139, 3) := by decide +kernel
theorem k_Main_step_24 : decode Y_Main_step.2.1 24 = .ok (.istore_n 3, 1) := by decide +kernel
theorem k_Main_step_25 : decode Y_Main_step.2.1 25 = .ok (.aload_n 0, 1) := by decide +kernel
theorem k_Main_step_26 : decode Y_Main_step.2.1 26 = .ok (.getfield 10, 3) := by decide +kernel
theorem k_Main_step_29 : decode Y_Main_step.2.1 29 = .ok (.iload_n 1, 1) := by decide +kernel
theorem k_Main_step_30 : decode Y_Main_step.2.1 30 = .ok (.putfield 139, 3) := by decide +kernel
theorem k_Main_step_33 : decode Y_Main_step.2.1 33 = .ok (.iload_n 3, 1) := by decide +kernel
theorem k_Main_step_34 : decode Y_Main_step.2.1 34 = .ok (.ireturn, 1) := by decide +kernel
theorem k_Main_law_0 : decode Y_Main_law.2.1 0 = .ok (.iload_n 1, 1) := by decide +kernel
theorem k_Main_law_1 : decode Y_Main_law.2.1 1 = .ok (.iconst 0, 1) := by decide +kernel
theorem k_Main_law_2 : decode Y_Main_law.2.1 2 = .ok (.bipush 127, 2) := by decide +kernel
theorem k_Main_law_4 : decode Y_Main_law.2.1 4 = .ok (.invokestatic 59, 3) := by decide +kernel
theorem k_Main_law_7 : decode Y_Main_law.2.1 7 = .ok (.istore_n 2, 1) := by decide +kernel
theorem k_Main_law_8 : decode Y_Main_law.2.1 8 = .ok (.iload_n 2, 1) := by decide +kernel
theorem k_Main_law_9 : decode Y_Main_law.2.1 9 = .ok (.ifCond .eq 9, 3) := by decide +kernel
theorem k_Main_law_12 : decode Y_Main_law.2.1 12 = .ok (.aload_n 0, 1) := by decide +kernel
theorem k_Main_law_13 : decode Y_Main_law.2.1 13 = .ok (.iload_n 2, 1) := by decide +kernel
theorem k_Main_law_14 : decode Y_Main_law.2.1 14 = .ok (.invokevirtual 67, 3) := by decide +kernel
theorem k_Main_law_17 : decode Y_Main_law.2.1 17 = .ok (.ireturn, 1) := by decide +kernel
theorem k_Main_law_18 : decode Y_Main_law.2.1 18 = .ok (.aload_n 0, 1) := by decide +kernel
theorem k_Main_law_19 : decode Y_Main_law.2.1 19 = .ok (.getfield 10, 3) := by decide +kernel
theorem k_Main_law_22 : decode Y_Main_law.2.1 22 = .ok (.getfield 142, 3) := by decide +kernel
theorem k_Main_law_25 : decode Y_Main_law.2.1 25 = .ok (.istore_n 3, 1) := by decide +kernel
theorem k_Main_law_26 : decode Y_Main_law.2.1 26 = .ok (.aload_n 0, 1) := by decide +kernel
theorem k_Main_law_27 : decode Y_Main_law.2.1 27 = .ok (.getfield 10, 3) := by decide +kernel
theorem k_Main_law_30 : decode Y_Main_law.2.1 30 = .ok (.iload_n 1, 1) := by decide +kernel
theorem k_Main_law_31 : decode Y_Main_law.2.1 31 = .ok (.putfield 142, 3) := by decide +kernel
theorem k_Main_law_34 : decode Y_Main_law.2.1 34 = .ok (.iload_n 3, 1) := by decide +kernel
theorem k_Main_law_35 : decode Y_Main_law.2.1 35 = .ok (.ireturn, 1) := by decide +kernel
theorem k_Main_sound_0 : decode Y_Main_sound.2.1 0 = .ok (.aload_n 0, 1) := by decide +kernel
theorem k_Main_sound_1 : decode Y_Main_sound.2.1 1 = .ok (.getfield 10, 3) := by decide +kernel
theorem k_Main_sound_4 : decode Y_Main_sound.2.1 4 = .ok (.iload_n 1, 1) := by decide +kernel
theorem k_Main_sound_5 : decode Y_Main_sound.2.1 5 = .ok (.invokevirtual 110, 3) := by decide +kernel
theorem k_Main_sound_8 : decode Y_Main_sound.2.1 8 = .ok (.ifCond .eq 14, 3) := by decide +kernel
theorem k_Main_sound_11 : decode Y_Main_sound.2.1 11 = .ok (.iload_n 2, 1) := by decide +kernel
theorem k_Main_sound_12 : decode Y_Main_sound.2.1 12 = .ok (.iconst 0, 1) := by decide +kernel
theorem k_Main_sound_13 : decode Y_Main_sound.2.1 13 = .ok (.sipush 400, 3) := by decide +kernel
theorem k_Main_sound_16 : decode Y_Main_sound.2.1 16 = .ok (.invokestatic 59, 3) := by decide +kernel
theorem k_Main_sound_19 : decode Y_Main_sound.2.1 19 = .ok (.goto 4, 3) := by decide +kernel
theorem k_Main_sound_22 : decode Y_Main_sound.2.1 22 = .ok (.iconst (-1), 1) := by decide +kernel
theorem k_Main_sound_23 : decode Y_Main_sound.2.1 23 = .ok (.istore_n 3, 1) := by decide +kernel
theorem k_Main_sound_24 : decode Y_Main_sound.2.1 24 = .ok (.iload_n 3, 1) := by decide +kernel
theorem k_Main_sound_25 : decode Y_Main_sound.2.1 25 = .ok (.ifCond .eq 14, 3) := by decide +kernel
theorem k_Main_sound_28 : decode Y_Main_sound.2.1 28 = .ok (.ldc 145, 2) := by decide +kernel
theorem k_Main_sound_30 : decode Y_Main_sound.2.1 30 = .ok (.aload_n 0, 1) := by decide +kernel
theorem k_Main_sound_31 : decode Y_Main_sound.2.1 31 = .ok (.iload_n 3, 1) := by decide +kernel
theorem k_Main_sound_32 : decode Y_Main_sound.2.1 32 = .ok (.invokevirtual 67, 3) := by decide +kernel
theorem k_Main_sound_35 : decode Y_Main_sound.2.1 35 = .ok (.isub, 1) := by decide +kernel
theorem k_Main_sound_36 : decode Y_Main_sound.2.1 36 = .ok (.goto 12, 3) := by decide +kernel
theorem k_Main_sound_39 : decode Y_Main_sound.2.1 39 = .ok (.aload_n 0, 1) := by decide +kernel
theorem k_Main_sound_40 : decode Y_Main_sound.2.1 40 = .ok (.getfield 10, 3) := by decide +kernel
theorem k_Main_sound_43 : decode Y_Main_sound.2.1 43 = .ok (.iload_n 1, 1) := by decide +kernel
theorem k_Main_sound_44 : decode Y_Main_sound.2.1 44 = .ok (.iload_n 2, 1) := by decide +kernel
theorem k_Main_sound_45 : decode Y_Main_sound.2.1 45 = .ok (.invokevirtual 146, 3) := by decide +kernel
theorem k_Main_sound_48 : decode Y_Main_sound.2.1 48 = .ok (.ireturn, 1) := by decide +kernel
theorem k_Main_ill_0 : decode Y_Main_ill.2.1 0 = .ok (.iload_n 1, 1) := by decide +kernel
theorem k_Main_ill_1 : decode Y_Main_ill.2.1 1 = .ok (.iconst 0, 1) := by decide +kernel
theorem k_Main_ill_2 : decode Y_Main_ill.2.1 2 = .ok (.sipush 400, 3) := by decide +kernel
theorem k_Main_ill_5 : decode Y_Main_ill.2.1 5 = .ok (.invokestatic 59, 3) := by decide +kernel
theorem k_Main_ill_8 : decode Y_Main_ill.2.1 8 = .ok (.istore_n 2, 1) := by decide +kernel
theorem k_Main_ill_9 : decode Y_Main_ill.2.1 9 = .ok (.iload_n 2, 1) := by decide +kernel
theorem k_Main_ill_10 : decode Y_Main_ill.2.1 10 = .ok (.ifCond .eq 11, 3) := by decide +kernel
theorem k_Main_ill_13 : decode Y_Main_ill.2.1 13 = .ok (.aload_n 0, 1) := by decide +kernel
theorem k_Main_ill_14 : decode Y_Main_ill.2.1 14 = .ok (.iload_n 2, 1) := by decide +kernel
theorem k_Main_ill_15 : decode Y_Main_ill.2.1 15 = .ok (.invokevirtual 67, 3) := by decide +kernel
theorem k_Main_ill_18 : decode Y_Main_ill.2.1 18 = .ok (.goto 11, 3) := by decide +kernel
theorem k_Main_ill_21 : decode Y_Main_ill.2.1 21 = .ok (.aload_n 0, 1) := by decide +kernel
theorem k_Main_ill_22 : decode Y_Main_ill.2.1 22 = .ok (.getfield 10, 3) := by decide +kernel
theorem k_Main_ill_25 : decode Y_Main_ill.2.1 25 = .ok (.iload_n 1, 1) := by decide +kernel
theorem k_Main_ill_26 : decode Y_Main_ill.2.1 26 = .ok (.invokevirtual 150, 3) := by decide +kernel
theorem k_Main_ill_29 : decode Y_Main_ill.2.1 29 = .ok (.ireturn, 1) := by decide +kernel
theorem k_Main_first_0 : decode Y_Main_first.2.1 0 = .ok (.iload_n 1, 1) := by decide +kernel
theorem k_Main_first_1 : decode Y_Main_first.2.1 1 = .ok (.ifCond .eq 15, 3) := by decide +kernel
theorem k_Main_first_4 : decode Y_Main_first.2.1 4 = .ok (.iload_n 1, 1) := by decide +kernel
theorem k_Main_first_5 : decode Y_Main_first.2.1 5 = .ok (.iconst 1, 1) := by decide +kernel
theorem k_Main_first_6 : decode Y_Main_first.2.1 6 = .ok (.if_icmp .eq 10, 3) := by decide +kernel
theorem k_Main_first_9 : decode Y_Main_first.2.1 9 = .ok (.aload_n 0, 1) := by decide +kernel
theorem k_Main_first_10 : decode Y_Main_first.2.1 10 = .ok (.bipush (-2), 2) := by decide +kernel
theorem k_Main_first_12 : decode Y_Main_first.2.1 12 = .ok (.invokevirtual 67, 3) := by decide +kernel
theorem k_Main_first_15 : decode Y_Main_first.2.1 15 = .ok (.ireturn, 1) := by decide +kernel
theorem k_Main_first_16 : decode Y_Main_first.2.1 16 = .ok (.aload_n 0, 1) := by decide +kernel
theorem k_Main_first_17 : decode Y_Main_first.2.1 17 = .ok (.getfield 10, 3) := by decide +kernel
theorem k_Main_first_20 : decode Y_Main_first.2.1 20 = .ok (.invokevirtual 153, 3) := by decide +kernel
theorem k_Main_first_23 : decode Y_Main_first.2.1 23 = .ok (.istore_n 2, 1) := by decide +kernel
theorem k_Main_first_24 : decode Y_Main_first.2.1 24 = .ok (.iload_n 1, 1) := by decide +kernel
theorem k_Main_first_25 : decode Y_Main_first.2.1 25 = .ok (.ifCond .eq 9, 3) := by decide +kernel
theorem k_Main_first_28 : decode Y_Main_first.2.1 28 = .ok (.iload_n 2, 1) := by decide +kernel
theorem k_Main_first_29 : decode Y_Main_first.2.1 29 = .ok (.bipush (-9), 2) := by decide +kernel
theorem k_Main_first_31 : decode Y_Main_first.2.1 31 = .ok (.if_icmp .ne 7, 3) := by decide +kernel
theorem k_Main_first_34 : decode Y_Main_first.2.1 34 = .ok (.iload_n 2, 1) := by decide +kernel
theorem k_Main_first_35 : decode Y_Main_first.2.1 35 = .ok (.goto 11, 3) := by decide +kernel
theorem k_Main_first_38 : decode Y_Main_first.2.1 38 = .ok (.aload_n 0, 1) := by decide +kernel
theorem k_Main_first_39 : decode Y_Main_first.2.1 39 = .ok (.getfield 10, 3) := by decide +kernel
theorem k_Main_first_42 : decode Y_Main_first.2.1 42 = .ok (.iload_n 2, 1) := by decide +kernel
theorem k_Main_first_43 : decode Y_Main_first.2.1 43 = .ok (.invokevirtual 156, 3) := by decide +kernel
theorem k_Main_first_46 : decode Y_Main_first.2.1 46 = .ok (.ireturn, 1) := by decide +kernel
theorem k_Main_allIll_0 : decode Y_Main_allIll.2.1 0 = .ok (.aload_n 0, 1) := by decide +kernel
theorem k_Main_allIll_1 : decode Y_Main_allIll.2.1 1 = .ok (.getfield 10, 3) := by decide +kernel
theorem k_Main_allIll_4 : decode Y_Main_allIll.2.1 4 = .ok (.invokevirtual 159, 3) := by decide +kernel
theorem k_Main_allIll_7 : decode Y_Main_allIll.2.1 7 = .ok (.ireturn, 1) := by decide +kernel
theorem k_Main_entries_0 : decode Y_Main_entries.2.1 0 = .ok (.iload_n 1, 1) := by decide +kernel
theorem k_Main_entries_1 : decode Y_Main_entries.2.1 1 = .ok (.ifCond .lt 8, 3) := by decide +kernel
theorem k_Main_entries_4 : decode Y_Main_entries.2.1 4 = .ok (.iload_n 1, 1) := by decide +kernel
theorem k_Main_entries_5 : decode Y_Main_entries.2.1 5 = .ok (.iconst 5, 1) := by decide +kernel
theorem k_Main_entries_6 : decode Y_Main_entries.2.1 6 = .ok (.if_icmp .le 8, 3) := by decide +kernel
theorem k_Main_entries_9 : decode Y_Main_entries.2.1 9 = .ok (.bipush (-2), 2) := by decide +kernel
theorem k_Main_entries_11 : decode Y_Main_entries.2.1 11 = .ok (.goto 10, 3) := by decide +kernel
theorem k_Main_entries_14 : decode Y_Main_entries.2.1 14 = .ok (.iload_n 2, 1) := by decide +kernel
theorem k_Main_entries_15 : decode Y_Main_entries.2.1 15 = .ok (.iconst 0, 1) := by decide +kernel
theorem k_Main_entries_16 : decode Y_Main_entries.2.1 16 = .ok (.bipush 9, 2) := by decide +kernel
theorem k_Main_entries_18 : decode Y_Main_entries.2.1 18 = .ok (.invokestatic 59, 3) := by decide +kernel
theorem k_Main_entries_21 : decode Y_Main_entries.2.1 21 = .ok (.istore_n 3, 1) := by decide +kernel
theorem k_Main_entries_22 : decode Y_Main_entries.2.1 22 = .ok (.iload_n 3, 1) := by decide +kernel
theorem k_Main_entries_23 : decode Y_Main_entries.2.1 23 = .ok (.ifCond .eq 11, 3) := by decide +kernel
theorem k_Main_entries_26 : decode Y_Main_entries.2.1 26 = .ok (.aload_n 0, 1) := by decide +kernel
theorem k_Main_entries_27 : decode Y_Main_entries.2.1 27 = .ok (.iload_n 3, 1) := by decide +kernel
theorem k_Main_entries_28 : decode Y_Main_entries.2.1 28 = .ok (.invokevirtual 67, 3) := by decide +kernel
theorem k_Main_entries_31 : decode Y_Main_entries.2.1 31 = .ok (.goto 16, 3) := by decide +kernel
theorem k_Main_entries_34 : decode Y_Main_entries.2.1 34 = .ok (.aload_n 0, 1) := by decide +kernel
theorem k_Main_entries_35 : decode Y_Main_entries.2.1 35 = .ok (.getfield 26, 3) := by decide +kernel
theorem k_Main_entries_38 : decode Y_Main_entries.2.1 38 = .ok (.aload_n 0, 1) := by decide +kernel
theorem k_Main_entries_39 : decode Y_Main_entries.2.1 39 = .ok (.getfield 10, 3) := by decide +kernel
theorem k_Main_entries_42 : decode Y_Main_entries.2.1 42 = .ok (.iload_n 1, 1) := by decide +kernel
theorem k_Main_entries_43 : decode Y_Main_entries.2.1 43 = .ok (.iload_n 2, 1) := by decide +kernel
theorem k_Main_entries_44 : decode Y_Main_entries.2.1 44 = .ok (.invokevirtual 162, 3) := by decide +kernel
theorem k_Main_entries_47 : decode Y_Main_entries.2.1 47 = .ok (.ireturn, 1) := by decide +kernel
theorem k_Main_added_0 : decode Y_Main_added.2.1 0 = .ok (.aload_n 0, 1) := by decide +kernel
theorem k_Main_added_1 : decode Y_Main_added.2.1 1 = .ok (.getfield 26, 3) := by decide +kernel
theorem k_Main_added_4 : decode Y_Main_added.2.1 4 = .ok (.aload_n 0, 1) := by decide +kernel
theorem k_Main_added_5 : decode Y_Main_added.2.1 5 = .ok (.getfield 10, 3) := by decide +kernel
theorem k_Main_added_8 : decode Y_Main_added.2.1 8 = .ok (.invokevirtual 166, 3) := by decide +kernel
theorem k_Main_added_11 : decode Y_Main_added.2.1 11 = .ok (.ireturn, 1) := by decide +kernel
theorem k_Main_silent_0 : decode Y_Main_silent.2.1 0 = .ok (.aload_n 0, 1) := by decide +kernel
theorem k_Main_silent_1 : decode Y_Main_silent.2.1 1 = .ok (.getfield 10, 3) := by decide +kernel
theorem k_Main_silent_4 : decode Y_Main_silent.2.1 4 = .ok (.invokevirtual 169, 3) := by decide +kernel
theorem k_Main_silent_7 : decode Y_Main_silent.2.1 7 = .ok (.ireturn, 1) := by decide +kernel
theorem k_Main_changed_0 : decode Y_Main_changed.2.1 0 = .ok (.iload_n 1, 1) := by decide +kernel
theorem k_Main_changed_1 : decode Y_Main_changed.2.1 1 = .ok (.lookupswitch 51 #[(0, 27), (1, 39)], 27) := by decide +kernel
theorem k_Main_changed_28 : decode Y_Main_changed.2.1 28 = .ok (.aload_n 0, 1) := by decide +kernel
theorem k_Main_changed_29 : decode Y_Main_changed.2.1 29 = .ok (.getfield 26, 3) := by decide +kernel
theorem k_Main_changed_32 : decode Y_Main_changed.2.1 32 = .ok (.aload_n 0, 1) := by decide +kernel
theorem k_Main_changed_33 : decode Y_Main_changed.2.1 33 = .ok (.getfield 10, 3) := by decide +kernel
theorem k_Main_changed_36 : decode Y_Main_changed.2.1 36 = .ok (.invokevirtual 172, 3) := by decide +kernel
theorem k_Main_changed_39 : decode Y_Main_changed.2.1 39 = .ok (.ireturn, 1) := by decide +kernel
theorem k_Main_changed_40 : decode Y_Main_changed.2.1 40 = .ok (.aload_n 0, 1) := by decide +kernel
theorem k_Main_changed_41 : decode Y_Main_changed.2.1 41 = .ok (.getfield 26, 3) := by decide +kernel
theorem k_Main_changed_44 : decode Y_Main_changed.2.1 44 = .ok (.aload_n 0, 1) := by decide +kernel
theorem k_Main_changed_45 : decode Y_Main_changed.2.1 45 = .ok (.getfield 10, 3) := by decide +kernel
theorem k_Main_changed_48 : decode Y_Main_changed.2.1 48 = .ok (.invokevirtual 175, 3) := by decide +kernel
theorem k_Main_changed_51 : decode Y_Main_changed.2.1 51 = .ok (.ireturn, 1) := by decide +kernel
theorem k_Main_changed_52 : decode Y_Main_changed.2.1 52 = .ok (.aload_n 0, 1) := by decide +kernel
theorem k_Main_changed_53 : decode Y_Main_changed.2.1 53 = .ok (.bipush (-2), 2) := by decide +kernel
theorem k_Main_changed_55 : decode Y_Main_changed.2.1 55 = .ok (.invokevirtual 67, 3) := by decide +kernel
theorem k_Main_changed_58 : decode Y_Main_changed.2.1 58 = .ok (.ireturn, 1) := by decide +kernel
theorem k_Main_better_0 : decode Y_Main_better.2.1 0 = .ok (.aload_n 0, 1) := by decide +kernel
theorem k_Main_better_1 : decode Y_Main_better.2.1 1 = .ok (.getfield 26, 3) := by decide +kernel
theorem k_Main_better_4 : decode Y_Main_better.2.1 4 = .ok (.aload_n 0, 1) := by decide +kernel
theorem k_Main_better_5 : decode Y_Main_better.2.1 5 = .ok (.getfield 10, 3) := by decide +kernel
theorem k_Main_better_8 : decode Y_Main_better.2.1 8 = .ok (.invokevirtual 178, 3) := by decide +kernel
theorem k_Main_better_11 : decode Y_Main_better.2.1 11 = .ok (.ireturn, 1) := by decide +kernel
theorem k_Main_mirror_0 : decode Y_Main_mirror.2.1 0 = .ok (.aload_n 0, 1) := by decide +kernel
theorem k_Main_mirror_1 : decode Y_Main_mirror.2.1 1 = .ok (.getfield 10, 3) := by decide +kernel
theorem k_Main_mirror_4 : decode Y_Main_mirror.2.1 4 = .ok (.getfield 91, 3) := by decide +kernel
theorem k_Main_mirror_7 : decode Y_Main_mirror.2.1 7 = .ok (.invokevirtual 181, 3) := by decide +kernel
theorem k_Main_mirror_10 : decode Y_Main_mirror.2.1 10 = .ok (.ifCond .eq 7, 3) := by decide +kernel
theorem k_Main_mirror_13 : decode Y_Main_mirror.2.1 13 = .ok (.iconst 1, 1) := by decide +kernel
theorem k_Main_mirror_14 : decode Y_Main_mirror.2.1 14 = .ok (.goto 4, 3) := by decide +kernel
theorem k_Main_mirror_17 : decode Y_Main_mirror.2.1 17 = .ok (.iconst 0, 1) := by decide +kernel
theorem k_Main_mirror_18 : decode Y_Main_mirror.2.1 18 = .ok (.ireturn, 1) := by decide +kernel
theorem k_Main_agreeing_0 : decode Y_Main_agreeing.2.1 0 = .ok (.iload_n 1, 1) := by decide +kernel
theorem k_Main_agreeing_1 : decode Y_Main_agreeing.2.1 1 = .ok (.iload_n 2, 1) := by decide +kernel
theorem k_Main_agreeing_2 : decode Y_Main_agreeing.2.1 2 = .ok (.invokestatic 185, 3) := by decide +kernel
theorem k_Main_agreeing_5 : decode Y_Main_agreeing.2.1 5 = .ok (.iconst 1, 1) := by decide +kernel
theorem k_Main_agreeing_6 : decode Y_Main_agreeing.2.1 6 = .ok (.if_icmp .ge 8, 3) := by decide +kernel
theorem k_Main_agreeing_9 : decode Y_Main_agreeing.2.1 9 = .ok (.bipush (-4), 2) := by decide +kernel
theorem k_Main_agreeing_11 : decode Y_Main_agreeing.2.1 11 = .ok (.goto 14, 3) := by decide +kernel
theorem k_Main_agreeing_14 : decode Y_Main_agreeing.2.1 14 = .ok (.iload_n 1, 1) := by decide +kernel
theorem k_Main_agreeing_15 : decode Y_Main_agreeing.2.1 15 = .ok (.iload_n 2, 1) := by decide +kernel
theorem k_Main_agreeing_16 : decode Y_Main_agreeing.2.1 16 = .ok (.invokestatic 190, 3) := by decide +kernel
theorem k_Main_agreeing_19 : decode Y_Main_agreeing.2.1 19 = .ok (.iconst 1, 1) := by decide +kernel
theorem k_Main_agreeing_20 : decode Y_Main_agreeing.2.1 20 = .ok (.bipush 12, 2) := by decide +kernel
theorem k_Main_agreeing_22 : decode Y_Main_agreeing.2.1 22 = .ok (.invokestatic 59, 3) := by decide +kernel
theorem k_Main_agreeing_25 : decode Y_Main_agreeing.2.1 25 = .ok (.istore_n 3, 1) := by decide +kernel
theorem k_Main_agreeing_26 : decode Y_Main_agreeing.2.1 26 = .ok (.iload_n 3, 1) := by decide +kernel
theorem k_Main_agreeing_27 : decode Y_Main_agreeing.2.1 27 = .ok (.ifCond .eq 16, 3) := by decide +kernel
theorem k_Main_agreeing_30 : decode Y_Main_agreeing.2.1 30 = .ok (.ldc2_w 193, 3) := by decide +kernel
theorem k_Main_agreeing_33 : decode Y_Main_agreeing.2.1 33 = .ok (.aload_n 0, 1) := by decide +kernel
theorem k_Main_agreeing_34 : decode Y_Main_agreeing.2.1 34 = .ok (.iload_n 3, 1) := by decide +kernel
theorem k_Main_agreeing_35 : decode Y_Main_agreeing.2.1 35 = .ok (.invokevirtual 67, 3) := by decide +kernel
theorem k_Main_agreeing_38 : decode Y_Main_agreeing.2.1 38 = .ok (.i2l, 1) := by decide +kernel
theorem k_Main_agreeing_39 : decode Y_Main_agreeing.2.1 39 = .ok (.lsub, 1) := by decide +kernel
theorem k_Main_agreeing_40 : decode Y_Main_agreeing.2.1 40 = .ok (.goto 19, 3) := by decide +kernel
theorem k_Main_agreeing_43 : decode Y_Main_agreeing.2.1 43 = .ok (.aload_n 0, 1) := by decide +kernel
theorem k_Main_agreeing_44 : decode Y_Main_agreeing.2.1 44 = .ok (.getfield 33, 3) := by decide +kernel
theorem k_Main_agreeing_47 : decode Y_Main_agreeing.2.1 47 = .ok (.iload_n 1, 1) := by decide +kernel
theorem k_Main_agreeing_48 : decode Y_Main_agreeing.2.1 48 = .ok (.iload_n 2, 1) := by decide +kernel
theorem k_Main_agreeing_49 : decode Y_Main_agreeing.2.1 49 = .ok (.aload_n 0, 1) := by decide +kernel
theorem k_Main_agreeing_50 : decode Y_Main_agreeing.2.1 50 = .ok (.getfield 10, 3) := by decide +kernel
theorem k_Main_agreeing_53 : decode Y_Main_agreeing.2.1 53 = .ok (.getfield 142, 3) := by decide +kernel
theorem k_Main_agreeing_56 : decode Y_Main_agreeing.2.1 56 = .ok (.invokevirtual 195, 3) := by decide +kernel
theorem k_Main_agreeing_59 : decode Y_Main_agreeing.2.1 59 = .ok (.lreturn, 1) := by decide +kernel
theorem k_Main_range_0 : decode Y_Main_range.2.1 0 = .ok (.aload_n 0, 1) := by decide +kernel
theorem k_Main_range_1 : decode Y_Main_range.2.1 1 = .ok (.getfield 10, 3) := by decide +kernel
theorem k_Main_range_4 : decode Y_Main_range.2.1 4 = .ok (.iload_n 1, 1) := by decide +kernel
theorem k_Main_range_5 : decode Y_Main_range.2.1 5 = .ok (.invokevirtual 110, 3) := by decide +kernel
theorem k_Main_range_8 : decode Y_Main_range.2.1 8 = .ok (.ifCond .ne 7, 3) := by decide +kernel
theorem k_Main_range_11 : decode Y_Main_range.2.1 11 = .ok (.iconst (-1), 1) := by decide +kernel
theorem k_Main_range_12 : decode Y_Main_range.2.1 12 = .ok (.goto 18, 3) := by decide +kernel
theorem k_Main_range_15 : decode Y_Main_range.2.1 15 = .ok (.iload_n 2, 1) := by decide +kernel
theorem k_Main_range_16 : decode Y_Main_range.2.1 16 = .ok (.ifCond .eq 13, 3) := by decide +kernel
theorem k_Main_range_19 : decode Y_Main_range.2.1 19 = .ok (.iload_n 2, 1) := by decide +kernel
theorem k_Main_range_20 : decode Y_Main_range.2.1 20 = .ok (.iconst 1, 1) := by decide +kernel
theorem k_Main_range_21 : decode Y_Main_range.2.1 21 = .ok (.if_icmp .eq 8, 3) := by decide +kernel
theorem k_Main_range_24 : decode Y_Main_range.2.1 24 = .ok (.bipush (-2), 2) := by decide +kernel
theorem k_Main_range_26 : decode Y_Main_range.2.1 26 = .ok (.goto 4, 3) := by decide +kernel
theorem k_Main_range_29 : decode Y_Main_range.2.1 29 = .ok (.iconst 0, 1) := by decide +kernel
theorem k_Main_range_30 : decode Y_Main_range.2.1 30 = .ok (.istore_n 3, 1) := by decide +kernel
theorem k_Main_range_31 : decode Y_Main_range.2.1 31 = .ok (.iload_n 3, 1) := by decide +kernel
theorem k_Main_range_32 : decode Y_Main_range.2.1 32 = .ok (.ifCond .eq 12, 3) := by decide +kernel
theorem k_Main_range_35 : decode Y_Main_range.2.1 35 = .ok (.ldc 145, 2) := by decide +kernel
theorem k_Main_range_37 : decode Y_Main_range.2.1 37 = .ok (.aload_n 0, 1) := by decide +kernel
theorem k_Main_range_38 : decode Y_Main_range.2.1 38 = .ok (.iload_n 3, 1) := by decide +kernel
theorem k_Main_range_39 : decode Y_Main_range.2.1 39 = .ok (.invokevirtual 67, 3) := by decide +kernel
theorem k_Main_range_42 : decode Y_Main_range.2.1 42 = .ok (.isub, 1) := by decide +kernel
theorem k_Main_range_43 : decode Y_Main_range.2.1 43 = .ok (.ireturn, 1) := by decide +kernel
theorem k_Main_range_44 : decode Y_Main_range.2.1 44 = .ok (.aload_n 0, 1) := by decide +kernel
theorem k_Main_range_45 : decode Y_Main_range.2.1 45 = .ok (.getfield 10, 3) := by decide +kernel
theorem k_Main_range_48 : decode Y_Main_range.2.1 48 = .ok (.iload_n 1, 1) := by decide +kernel
theorem k_Main_range_49 : decode Y_Main_range.2.1 49 = .ok (.iload_n 2, 1) := by decide +kernel
theorem k_Main_range_50 : decode Y_Main_range.2.1 50 = .ok (.iconst 1, 1) := by decide +kernel
theorem k_Main_range_51 : decode Y_Main_range.2.1 51 = .ok (.if_icmp .ne 7, 3) := by decide +kernel
theorem k_Main_range_54 : decode Y_Main_range.2.1 54 = .ok (.iconst 1, 1) := by decide +kernel
theorem k_Main_range_55 : decode Y_Main_range.2.1 55 = .ok (.goto 4, 3) := by decide +kernel
theorem k_Main_range_58 : decode Y_Main_range.2.1 58 = .ok (.iconst 0, 1) := by decide +kernel
theorem k_Main_range_59 : decode Y_Main_range.2.1 59 = .ok (.invokevirtual 199, 3) := by decide +kernel
theorem k_Main_range_62 : decode Y_Main_range.2.1 62 = .ok (.ireturn, 1) := by decide +kernel
theorem k_Main_stop_0 : decode Y_Main_stop.2.1 0 = .ok (.iload_n 1, 1) := by decide +kernel
theorem k_Main_stop_1 : decode Y_Main_stop.2.1 1 = .ok (.iconst 0, 1) := by decide +kernel
theorem k_Main_stop_2 : decode Y_Main_stop.2.1 2 = .ok (.sipush 400, 3) := by decide +kernel
theorem k_Main_stop_5 : decode Y_Main_stop.2.1 5 = .ok (.invokestatic 59, 3) := by decide +kernel
theorem k_Main_stop_8 : decode Y_Main_stop.2.1 8 = .ok (.istore_n 2, 1) := by decide +kernel
theorem k_Main_stop_9 : decode Y_Main_stop.2.1 9 = .ok (.iload_n 2, 1) := by decide +kernel
theorem k_Main_stop_10 : decode Y_Main_stop.2.1 10 = .ok (.ifCond .eq 11, 3) := by decide +kernel
theorem k_Main_stop_13 : decode Y_Main_stop.2.1 13 = .ok (.aload_n 0, 1) := by decide +kernel
theorem k_Main_stop_14 : decode Y_Main_stop.2.1 14 = .ok (.iload_n 2, 1) := by decide +kernel
theorem k_Main_stop_15 : decode Y_Main_stop.2.1 15 = .ok (.invokevirtual 67, 3) := by decide +kernel
theorem k_Main_stop_18 : decode Y_Main_stop.2.1 18 = .ok (.goto 11, 3) := by decide +kernel
theorem k_Main_stop_21 : decode Y_Main_stop.2.1 21 = .ok (.aload_n 0, 1) := by decide +kernel
theorem k_Main_stop_22 : decode Y_Main_stop.2.1 22 = .ok (.getfield 10, 3) := by decide +kernel
theorem k_Main_stop_25 : decode Y_Main_stop.2.1 25 = .ok (.iload_n 1, 1) := by decide +kernel
theorem k_Main_stop_26 : decode Y_Main_stop.2.1 26 = .ok (.invokevirtual 203, 3) := by decide +kernel
theorem k_Main_stop_29 : decode Y_Main_stop.2.1 29 = .ok (.ireturn, 1) := by decide +kernel
theorem k_Main_unison_0 : decode Y_Main_unison.2.1 0 = .ok (.aload_n 0, 1) := by decide +kernel
theorem k_Main_unison_1 : decode Y_Main_unison.2.1 1 = .ok (.getfield 10, 3) := by decide +kernel
theorem k_Main_unison_4 : decode Y_Main_unison.2.1 4 = .ok (.invokevirtual 206, 3) := by decide +kernel
theorem k_Main_unison_7 : decode Y_Main_unison.2.1 7 = .ok (.ireturn, 1) := by decide +kernel
theorem k_Main_row_0 : decode Y_Main_row.2.1 0 = .ok (.iload_n 1, 1) := by decide +kernel
theorem k_Main_row_1 : decode Y_Main_row.2.1 1 = .ok (.iconst 0, 1) := by decide +kernel
theorem k_Main_row_2 : decode Y_Main_row.2.1 2 = .ok (.bipush 60, 2) := by decide +kernel
theorem k_Main_row_4 : decode Y_Main_row.2.1 4 = .ok (.invokestatic 59, 3) := by decide +kernel
theorem k_Main_row_7 : decode Y_Main_row.2.1 7 = .ok (.istore_n 2, 1) := by decide +kernel
theorem k_Main_row_8 : decode Y_Main_row.2.1 8 = .ok (.iload_n 2, 1) := by decide +kernel
theorem k_Main_row_9 : decode Y_Main_row.2.1 9 = .ok (.ifCond .ne 18, 3) := by decide +kernel
theorem k_Main_row_12 : decode Y_Main_row.2.1 12 = .ok (.aload_n 0, 1) := by decide +kernel
theorem k_Main_row_13 : decode Y_Main_row.2.1 13 = .ok (.getfield 49, 3) := by decide +kernel
theorem k_Main_row_16 : decode Y_Main_row.2.1 16 = .ok (.invokevirtual 209, 3) := by decide +kernel
theorem k_Main_row_19 : decode Y_Main_row.2.1 19 = .ok (.bipush 12, 2) := by decide +kernel
theorem k_Main_row_21 : decode Y_Main_row.2.1 21 = .ok (.if_icmp .lt 6, 3) := by decide +kernel
theorem k_Main_row_24 : decode Y_Main_row.2.1 24 = .ok (.bipush (-6), 2) := by decide +kernel
theorem k_Main_row_26 : decode Y_Main_row.2.1 26 = .ok (.istore_n 2, 1) := by decide +kernel
theorem k_Main_row_27 : decode Y_Main_row.2.1 27 = .ok (.iload_n 2, 1) := by decide +kernel
theorem k_Main_row_28 : decode Y_Main_row.2.1 28 = .ok (.ifCond .eq 9, 3) := by decide +kernel
theorem k_Main_row_31 : decode Y_Main_row.2.1 31 = .ok (.aload_n 0, 1) := by decide +kernel
theorem k_Main_row_32 : decode Y_Main_row.2.1 32 = .ok (.iload_n 2, 1) := by decide +kernel
theorem k_Main_row_33 : decode Y_Main_row.2.1 33 = .ok (.invokevirtual 67, 3) := by decide +kernel
theorem k_Main_row_36 : decode Y_Main_row.2.1 36 = .ok (.ireturn, 1) := by decide +kernel
theorem k_Main_row_37 : decode Y_Main_row.2.1 37 = .ok (.aload_n 0, 1) := by decide +kernel
theorem k_Main_row_38 : decode Y_Main_row.2.1 38 = .ok (.getfield 49, 3) := by decide +kernel
theorem k_Main_row_41 : decode Y_Main_row.2.1 41 = .ok (.iload_n 1, 1) := by decide +kernel
theorem k_Main_row_42 : decode Y_Main_row.2.1 42 = .ok (.invokevirtual 56, 3) := by decide +kernel
theorem k_Main_row_45 : decode Y_Main_row.2.1 45 = .ok (.aload_n 0, 1) := by decide +kernel
theorem k_Main_row_46 : decode Y_Main_row.2.1 46 = .ok (.getfield 49, 3) := by decide +kernel
theorem k_Main_row_49 : decode Y_Main_row.2.1 49 = .ok (.invokevirtual 209, 3) := by decide +kernel
theorem k_Main_row_52 : decode Y_Main_row.2.1 52 = .ok (.ireturn, 1) := by decide +kernel
theorem k_Main_who_0 : decode Y_Main_who.2.1 0 = .ok (.iload_n 1, 1) := by decide +kernel
theorem k_Main_who_1 : decode Y_Main_who.2.1 1 = .ok (.iconst 0, 1) := by decide +kernel
theorem k_Main_who_2 : decode Y_Main_who.2.1 2 = .ok (.sipush 400, 3) := by decide +kernel
theorem k_Main_who_5 : decode Y_Main_who.2.1 5 = .ok (.invokestatic 59, 3) := by decide +kernel
theorem k_Main_who_8 : decode Y_Main_who.2.1 8 = .ok (.istore_n 2, 1) := by decide +kernel
theorem k_Main_who_9 : decode Y_Main_who.2.1 9 = .ok (.iload_n 2, 1) := by decide +kernel
theorem k_Main_who_10 : decode Y_Main_who.2.1 10 = .ok (.ifCond .eq 9, 3) := by decide +kernel
theorem k_Main_who_13 : decode Y_Main_who.2.1 13 = .ok (.aload_n 0, 1) := by decide +kernel
theorem k_Main_who_14 : decode Y_Main_who.2.1 14 = .ok (.iload_n 2, 1) := by decide +kernel
theorem k_Main_who_15 : decode Y_Main_who.2.1 15 = .ok (.invokevirtual 67, 3) := by decide +kernel
theorem k_Main_who_18 : decode Y_Main_who.2.1 18 = .ok (.ireturn, 1) := by decide +kernel
theorem k_Main_who_19 : decode Y_Main_who.2.1 19 = .ok (.iconst 0, 1) := by decide +kernel
theorem k_Main_who_20 : decode Y_Main_who.2.1 20 = .ok (.istore_n 3, 1) := by decide +kernel
theorem k_Main_who_21 : decode Y_Main_who.2.1 21 = .ok (.iconst 0, 1) := by decide +kernel
theorem k_Main_who_22 : decode Y_Main_who.2.1 22 = .ok (.istore 4, 2) := by decide +kernel
theorem k_Main_who_24 : decode Y_Main_who.2.1 24 = .ok (.iload 4, 2) := by decide +kernel
theorem k_Main_who_26 : decode Y_Main_who.2.1 26 = .ok (.aload_n 0, 1) := by decide +kernel
theorem k_Main_who_27 : decode Y_Main_who.2.1 27 = .ok (.getfield 10, 3) := by decide +kernel
theorem k_Main_who_30 : decode Y_Main_who.2.1 30 = .ok (.invokevirtual 210, 3) := by decide +kernel
theorem k_Main_who_33 : decode Y_Main_who.2.1 33 = .ok (.if_icmp .ge 35, 3) := by decide +kernel
theorem k_Main_who_36 : decode Y_Main_who.2.1 36 = .ok (.aload_n 0, 1) := by decide +kernel
theorem k_Main_who_37 : decode Y_Main_who.2.1 37 = .ok (.getfield 10, 3) := by decide +kernel
theorem k_Main_who_40 : decode Y_Main_who.2.1 40 = .ok (.iload 4, 2) := by decide +kernel
theorem k_Main_who_42 : decode Y_Main_who.2.1 42 = .ok (.iload_n 1, 1) := by decide +kernel
theorem k_Main_who_43 : decode Y_Main_who.2.1 43 = .ok (.aload_n 0, 1) := by decide +kernel
theorem k_Main_who_44 : decode Y_Main_who.2.1 44 = .ok (.getfield 49, 3) := by decide +kernel
theorem k_Main_who_47 : decode Y_Main_who.2.1 47 = .ok (.invokevirtual 213, 3) := by decide +kernel
theorem k_Main_who_50 : decode Y_Main_who.2.1 50 = .ok (.bipush (-9), 2) := by decide +kernel
theorem k_Main_who_52 : decode Y_Main_who.2.1 52 = .ok (.if_icmp .ne 10, 3) := by decide +kernel
theorem k_Main_who_55 : decode Y_Main_who.2.1 55 = .ok (.iload_n 3, 1) := by decide +kernel
theorem k_Main_who_56 : decode Y_Main_who.2.1 56 = .ok (.iconst 1, 1) := by decide +kernel
theorem k_Main_who_57 : decode Y_Main_who.2.1 57 = .ok (.iload 4, 2) := by decide +kernel
theorem k_Main_who_59 : decode Y_Main_who.2.1 59 = .ok (.ishl, 1) := by decide +kernel
theorem k_Main_who_60 : decode Y_Main_who.2.1 60 = .ok (.ior, 1) := by decide +kernel
theorem k_Main_who_61 : decode Y_Main_who.2.1 61 = .ok (.istore_n 3, 1) := by decide +kernel
theorem k_Main_who_62 : decode Y_Main_who.2.1 62 = .ok (.iinc 4 1, 3) := by decide +kernel
theorem k_Main_who_65 : decode Y_Main_who.2.1 65 = .ok (.goto (-41), 3) := by decide +kernel
theorem k_Main_who_68 : decode Y_Main_who.2.1 68 = .ok (.iload_n 3, 1) := by decide +kernel
theorem k_Main_who_69 : decode Y_Main_who.2.1 69 = .ok (.ireturn, 1) := by decide +kernel
theorem k_Main_judge_0 : decode Y_Main_judge.2.1 0 = .ok (.aload_n 0, 1) := by decide +kernel
theorem k_Main_judge_1 : decode Y_Main_judge.2.1 1 = .ok (.getfield 10, 3) := by decide +kernel
theorem k_Main_judge_4 : decode Y_Main_judge.2.1 4 = .ok (.iload_n 1, 1) := by decide +kernel
theorem k_Main_judge_5 : decode Y_Main_judge.2.1 5 = .ok (.invokevirtual 110, 3) := by decide +kernel
theorem k_Main_judge_8 : decode Y_Main_judge.2.1 8 = .ok (.ifCond .eq 14, 3) := by decide +kernel
theorem k_Main_judge_11 : decode Y_Main_judge.2.1 11 = .ok (.iload_n 2, 1) := by decide +kernel
theorem k_Main_judge_12 : decode Y_Main_judge.2.1 12 = .ok (.iconst 0, 1) := by decide +kernel
theorem k_Main_judge_13 : decode Y_Main_judge.2.1 13 = .ok (.sipush 400, 3) := by decide +kernel
theorem k_Main_judge_16 : decode Y_Main_judge.2.1 16 = .ok (.invokestatic 59, 3) := by decide +kernel
theorem k_Main_judge_19 : decode Y_Main_judge.2.1 19 = .ok (.goto 4, 3) := by decide +kernel
theorem k_Main_judge_22 : decode Y_Main_judge.2.1 22 = .ok (.iconst (-1), 1) := by decide +kernel
theorem k_Main_judge_23 : decode Y_Main_judge.2.1 23 = .ok (.istore_n 3, 1) := by decide +kernel
theorem k_Main_judge_24 : decode Y_Main_judge.2.1 24 = .ok (.iload_n 3, 1) := by decide +kernel
theorem k_Main_judge_25 : decode Y_Main_judge.2.1 25 = .ok (.ifCond .eq 9, 3) := by decide +kernel
theorem k_Main_judge_28 : decode Y_Main_judge.2.1 28 = .ok (.aload_n 0, 1) := by decide +kernel
theorem k_Main_judge_29 : decode Y_Main_judge.2.1 29 = .ok (.iload_n 3, 1) := by decide +kernel
theorem k_Main_judge_30 : decode Y_Main_judge.2.1 30 = .ok (.invokevirtual 67, 3) := by decide +kernel
theorem k_Main_judge_33 : decode Y_Main_judge.2.1 33 = .ok (.ireturn, 1) := by decide +kernel
theorem k_Main_judge_34 : decode Y_Main_judge.2.1 34 = .ok (.aload_n 0, 1) := by decide +kernel
theorem k_Main_judge_35 : decode Y_Main_judge.2.1 35 = .ok (.getfield 10, 3) := by decide +kernel
theorem k_Main_judge_38 : decode Y_Main_judge.2.1 38 = .ok (.iload_n 1, 1) := by decide +kernel
theorem k_Main_judge_39 : decode Y_Main_judge.2.1 39 = .ok (.iload_n 2, 1) := by decide +kernel
theorem k_Main_judge_40 : decode Y_Main_judge.2.1 40 = .ok (.aload_n 0, 1) := by decide +kernel
theorem k_Main_judge_41 : decode Y_Main_judge.2.1 41 = .ok (.getfield 49, 3) := by decide +kernel
theorem k_Main_judge_44 : decode Y_Main_judge.2.1 44 = .ok (.invokevirtual 213, 3) := by decide +kernel
theorem k_Main_judge_47 : decode Y_Main_judge.2.1 47 = .ok (.istore 4, 2) := by decide +kernel
theorem k_Main_judge_49 : decode Y_Main_judge.2.1 49 = .ok (.aload_n 0, 1) := by decide +kernel
theorem k_Main_judge_50 : decode Y_Main_judge.2.1 50 = .ok (.getfield 49, 3) := by decide +kernel
theorem k_Main_judge_53 : decode Y_Main_judge.2.1 53 = .ok (.invokevirtual 217, 3) := by decide +kernel
theorem k_Main_judge_56 : decode Y_Main_judge.2.1 56 = .ok (.iload 4, 2) := by decide +kernel
theorem k_Main_judge_58 : decode Y_Main_judge.2.1 58 = .ok (.ireturn, 1) := by decide +kernel
theorem k_Main_seeds_0 : decode Y_Main_seeds.2.1 0 = .ok (.iload_n 1, 1) := by decide +kernel
theorem k_Main_seeds_1 : decode Y_Main_seeds.2.1 1 = .ok (.iconst 1, 1) := by decide +kernel
theorem k_Main_seeds_2 : decode Y_Main_seeds.2.1 2 = .ok (.bipush 20, 2) := by decide +kernel
theorem k_Main_seeds_4 : decode Y_Main_seeds.2.1 4 = .ok (.invokestatic 59, 3) := by decide +kernel
theorem k_Main_seeds_7 : decode Y_Main_seeds.2.1 7 = .ok (.istore_n 3, 1) := by decide +kernel
theorem k_Main_seeds_8 : decode Y_Main_seeds.2.1 8 = .ok (.iload_n 3, 1) := by decide +kernel
theorem k_Main_seeds_9 : decode Y_Main_seeds.2.1 9 = .ok (.ifCond .eq 11, 3) := by decide +kernel
theorem k_Main_seeds_12 : decode Y_Main_seeds.2.1 12 = .ok (.aload_n 0, 1) := by decide +kernel
theorem k_Main_seeds_13 : decode Y_Main_seeds.2.1 13 = .ok (.iload_n 3, 1) := by decide +kernel
theorem k_Main_seeds_14 : decode Y_Main_seeds.2.1 14 = .ok (.invokevirtual 67, 3) := by decide +kernel
theorem k_Main_seeds_17 : decode Y_Main_seeds.2.1 17 = .ok (.goto 16, 3) := by decide +kernel
theorem k_Main_seeds_20 : decode Y_Main_seeds.2.1 20 = .ok (.aload_n 0, 1) := by decide +kernel
theorem k_Main_seeds_21 : decode Y_Main_seeds.2.1 21 = .ok (.getfield 26, 3) := by decide +kernel
theorem k_Main_seeds_24 : decode Y_Main_seeds.2.1 24 = .ok (.aload_n 0, 1) := by decide +kernel
theorem k_Main_seeds_25 : decode Y_Main_seeds.2.1 25 = .ok (.getfield 10, 3) := by decide +kernel
theorem k_Main_seeds_28 : decode Y_Main_seeds.2.1 28 = .ok (.iload_n 1, 1) := by decide +kernel
theorem k_Main_seeds_29 : decode Y_Main_seeds.2.1 29 = .ok (.iload_n 2, 1) := by decide +kernel
theorem k_Main_seeds_30 : decode Y_Main_seeds.2.1 30 = .ok (.invokevirtual 218, 3) := by decide +kernel
theorem k_Main_seeds_33 : decode Y_Main_seeds.2.1 33 = .ok (.ireturn, 1) := by decide +kernel
theorem k_Main_image_0 : decode Y_Main_image.2.1 0 = .ok (.aload_n 0, 1) := by decide +kernel
theorem k_Main_image_1 : decode Y_Main_image.2.1 1 = .ok (.getfield 16, 3) := by decide +kernel
theorem k_Main_image_4 : decode Y_Main_image.2.1 4 = .ok (.aload_n 0, 1) := by decide +kernel
theorem k_Main_image_5 : decode Y_Main_image.2.1 5 = .ok (.getfield 10, 3) := by decide +kernel
theorem k_Main_image_8 : decode Y_Main_image.2.1 8 = .ok (.invokevirtual 84, 3) := by decide +kernel
theorem k_Main_image_11 : decode Y_Main_image.2.1 11 = .ok (.aload_n 0, 1) := by decide +kernel
theorem k_Main_image_12 : decode Y_Main_image.2.1 12 = .ok (.iconst 1, 1) := by decide +kernel
theorem k_Main_image_13 : decode Y_Main_image.2.1 13 = .ok (.putfield 19, 3) := by decide +kernel
theorem k_Main_image_16 : decode Y_Main_image.2.1 16 = .ok (.aload_n 0, 1) := by decide +kernel
theorem k_Main_image_17 : decode Y_Main_image.2.1 17 = .ok (.getfield 10, 3) := by decide +kernel
theorem k_Main_image_20 : decode Y_Main_image.2.1 20 = .ok (.getfield 91, 3) := by decide +kernel
theorem k_Main_image_23 : decode Y_Main_image.2.1 23 = .ok (.invokevirtual 221, 3) := by decide +kernel
theorem k_Main_image_26 : decode Y_Main_image.2.1 26 = .ok (.ireturn, 1) := by decide +kernel
theorem k_Main_on_0 : decode Y_Main_on.2.1 0 = .ok (.aload_n 0, 1) := by decide +kernel
theorem k_Main_on_1 : decode Y_Main_on.2.1 1 = .ok (.getfield 19, 3) := by decide +kernel
theorem k_Main_on_4 : decode Y_Main_on.2.1 4 = .ok (.ifCond .ne 10, 3) := by decide +kernel
theorem k_Main_on_7 : decode Y_Main_on.2.1 7 = .ok (.aload_n 0, 1) := by decide +kernel
theorem k_Main_on_8 : decode Y_Main_on.2.1 8 = .ok (.bipush (-3), 2) := by decide +kernel
theorem k_Main_on_10 : decode Y_Main_on.2.1 10 = .ok (.invokevirtual 67, 3) := by decide +kernel
theorem k_Main_on_13 : decode Y_Main_on.2.1 13 = .ok (.ireturn, 1) := by decide +kernel
theorem k_Main_on_14 : decode Y_Main_on.2.1 14 = .ok (.aload_n 0, 1) := by decide +kernel
theorem k_Main_on_15 : decode Y_Main_on.2.1 15 = .ok (.getfield 10, 3) := by decide +kernel
theorem k_Main_on_18 : decode Y_Main_on.2.1 18 = .ok (.aload_n 0, 1) := by decide +kernel
theorem k_Main_on_19 : decode Y_Main_on.2.1 19 = .ok (.getfield 16, 3) := by decide +kernel
theorem k_Main_on_22 : decode Y_Main_on.2.1 22 = .ok (.invokevirtual 84, 3) := by decide +kernel
theorem k_Main_on_25 : decode Y_Main_on.2.1 25 = .ok (.aload_n 0, 1) := by decide +kernel
theorem k_Main_on_26 : decode Y_Main_on.2.1 26 = .ok (.getfield 10, 3) := by decide +kernel
theorem k_Main_on_29 : decode Y_Main_on.2.1 29 = .ok (.getfield 91, 3) := by decide +kernel
theorem k_Main_on_32 : decode Y_Main_on.2.1 32 = .ok (.invokevirtual 221, 3) := by decide +kernel
theorem k_Main_on_35 : decode Y_Main_on.2.1 35 = .ok (.ireturn, 1) := by decide +kernel
theorem k_Main_count_0 : decode Y_Main_count.2.1 0 = .ok (.iload_n 1, 1) := by decide +kernel
theorem k_Main_count_1 : decode Y_Main_count.2.1 1 = .ok (.tableswitch 129 0 8 #[51, 62, 70, 81, 89, 97, 105, 113, 121], 51) := by decide +kernel
theorem k_Main_count_52 : decode Y_Main_count.2.1 52 = .ok (.aload_n 0, 1) := by decide +kernel
theorem k_Main_count_53 : decode Y_Main_count.2.1 53 = .ok (.getfield 10, 3) := by decide +kernel
theorem k_Main_count_56 : decode Y_Main_count.2.1 56 = .ok (.getfield 91, 3) := by decide +kernel
theorem k_Main_count_59 : decode Y_Main_count.2.1 59 = .ok (.invokevirtual 221, 3) := by decide +kernel
theorem k_Main_count_62 : decode Y_Main_count.2.1 62 = .ok (.ireturn, 1) := by decide +kernel
theorem k_Main_count_63 : decode Y_Main_count.2.1 63 = .ok (.aload_n 0, 1) := by decide +kernel
theorem k_Main_count_64 : decode Y_Main_count.2.1 64 = .ok (.getfield 10, 3) := by decide +kernel
theorem k_Main_count_67 : decode Y_Main_count.2.1 67 = .ok (.invokevirtual 210, 3) := by decide +kernel
theorem k_Main_count_70 : decode Y_Main_count.2.1 70 = .ok (.ireturn, 1) := by decide +kernel
theorem k_Main_count_71 : decode Y_Main_count.2.1 71 = .ok (.aload_n 0, 1) := by decide +kernel
theorem k_Main_count_72 : decode Y_Main_count.2.1 72 = .ok (.getfield 10, 3) := by decide +kernel
theorem k_Main_count_75 : decode Y_Main_count.2.1 75 = .ok (.getfield 91, 3) := by decide +kernel
theorem k_Main_count_78 : decode Y_Main_count.2.1 78 = .ok (.getfield 224, 3) := by decide +kernel
theorem k_Main_count_81 : decode Y_Main_count.2.1 81 = .ok (.ireturn, 1) := by decide +kernel
theorem k_Main_count_82 : decode Y_Main_count.2.1 82 = .ok (.aload_n 0, 1) := by decide +kernel
theorem k_Main_count_83 : decode Y_Main_count.2.1 83 = .ok (.getfield 10, 3) := by decide +kernel
theorem k_Main_count_86 : decode Y_Main_count.2.1 86 = .ok (.invokevirtual 227, 3) := by decide +kernel
theorem k_Main_count_89 : decode Y_Main_count.2.1 89 = .ok (.ireturn, 1) := by decide +kernel
theorem k_Main_count_90 : decode Y_Main_count.2.1 90 = .ok (.aload_n 0, 1) := by decide +kernel
theorem k_Main_count_91 : decode Y_Main_count.2.1 91 = .ok (.getfield 10, 3) := by decide +kernel
theorem k_Main_count_94 : decode Y_Main_count.2.1 94 = .ok (.getfield 135, 3) := by decide +kernel
theorem k_Main_count_97 : decode Y_Main_count.2.1 97 = .ok (.ireturn, 1) := by decide +kernel
theorem k_Main_count_98 : decode Y_Main_count.2.1 98 = .ok (.aload_n 0, 1) := by decide +kernel
theorem k_Main_count_99 : decode Y_Main_count.2.1 99 = .ok (.getfield 10, 3) := by decide +kernel
theorem k_Main_count_102 : decode Y_Main_count.2.1 102 = .ok (.getfield 139, 3) := by decide +kernel
theorem k_Main_count_105 : decode Y_Main_count.2.1 105 = .ok (.ireturn, 1) := by decide +kernel
theorem k_Main_count_106 : decode Y_Main_count.2.1 106 = .ok (.aload_n 0, 1) := by decide +kernel
theorem k_Main_count_107 : decode Y_Main_count.2.1 107 = .ok (.getfield 10, 3) := by decide +kernel
theorem k_Main_count_110 : decode Y_Main_count.2.1 110 = .ok (.getfield 142, 3) := by decide +kernel
theorem k_Main_count_113 : decode Y_Main_count.2.1 113 = .ok (.ireturn, 1) := by decide +kernel
theorem k_Main_count_114 : decode Y_Main_count.2.1 114 = .ok (.aload_n 0, 1) := by decide +kernel
theorem k_Main_count_115 : decode Y_Main_count.2.1 115 = .ok (.getfield 49, 3) := by decide +kernel
theorem k_Main_count_118 : decode Y_Main_count.2.1 118 = .ok (.invokevirtual 209, 3) := by decide +kernel
theorem k_Main_count_121 : decode Y_Main_count.2.1 121 = .ok (.ireturn, 1) := by decide +kernel
theorem k_Main_count_122 : decode Y_Main_count.2.1 122 = .ok (.aload_n 0, 1) := by decide +kernel
theorem k_Main_count_123 : decode Y_Main_count.2.1 123 = .ok (.getfield 40, 3) := by decide +kernel
theorem k_Main_count_126 : decode Y_Main_count.2.1 126 = .ok (.invokevirtual 63, 3) := by decide +kernel
theorem k_Main_count_129 : decode Y_Main_count.2.1 129 = .ok (.ireturn, 1) := by decide +kernel
theorem k_Main_count_130 : decode Y_Main_count.2.1 130 = .ok (.iload_n 1, 1) := by decide +kernel
theorem k_Main_count_131 : decode Y_Main_count.2.1 131 = .ok (.bipush 11, 2) := by decide +kernel
theorem k_Main_count_133 : decode Y_Main_count.2.1 133 = .ok (.if_icmp .lt 23, 3) := by decide +kernel
theorem k_Main_count_136 : decode Y_Main_count.2.1 136 = .ok (.iload_n 1, 1) := by decide +kernel
theorem k_Main_count_137 : decode Y_Main_count.2.1 137 = .ok (.bipush 16, 2) := by decide +kernel
theorem k_Main_count_139 : decode Y_Main_count.2.1 139 = .ok (.if_icmp .gt 17, 3) := by decide +kernel
theorem k_Main_count_142 : decode Y_Main_count.2.1 142 = .ok (.aload_n 0, 1) := by decide +kernel
theorem k_Main_count_143 : decode Y_Main_count.2.1 143 = .ok (.getfield 53, 3) := by decide +kernel
theorem k_Main_count_146 : decode Y_Main_count.2.1 146 = .ok (.iload_n 1, 1) := by decide +kernel
theorem k_Main_count_147 : decode Y_Main_count.2.1 147 = .ok (.bipush 11, 2) := by decide +kernel
theorem k_Main_count_149 : decode Y_Main_count.2.1 149 = .ok (.isub, 1) := by decide +kernel
theorem k_Main_count_150 : decode Y_Main_count.2.1 150 = .ok (.invokevirtual 230, 3) := by decide +kernel
theorem k_Main_count_153 : decode Y_Main_count.2.1 153 = .ok (.goto 5, 3) := by decide +kernel
theorem k_Main_count_156 : decode Y_Main_count.2.1 156 = .ok (.bipush (-9), 2) := by decide +kernel
theorem k_Main_count_158 : decode Y_Main_count.2.1 158 = .ok (.ireturn, 1) := by decide +kernel
theorem k_Main_outside_0 : decode Y_Main_outside.2.1 0 = .ok (.iload_n 0, 1) := by decide +kernel
theorem k_Main_outside_1 : decode Y_Main_outside.2.1 1 = .ok (.iload_n 1, 1) := by decide +kernel
theorem k_Main_outside_2 : decode Y_Main_outside.2.1 2 = .ok (.if_icmp .ge 8, 3) := by decide +kernel
theorem k_Main_outside_5 : decode Y_Main_outside.2.1 5 = .ok (.bipush (-4), 2) := by decide +kernel
theorem k_Main_outside_7 : decode Y_Main_outside.2.1 7 = .ok (.goto 14, 3) := by decide +kernel
theorem k_Main_outside_10 : decode Y_Main_outside.2.1 10 = .ok (.iload_n 0, 1) := by decide +kernel
theorem k_Main_outside_11 : decode Y_Main_outside.2.1 11 = .ok (.iload_n 2, 1) := by decide +kernel
theorem k_Main_outside_12 : decode Y_Main_outside.2.1 12 = .ok (.if_icmp .le 8, 3) := by decide +kernel
theorem k_Main_outside_15 : decode Y_Main_outside.2.1 15 = .ok (.bipush (-6), 2) := by decide +kernel
theorem k_Main_outside_17 : decode Y_Main_outside.2.1 17 = .ok (.goto 4, 3) := by decide +kernel
theorem k_Main_outside_20 : decode Y_Main_outside.2.1 20 = .ok (.iconst 0, 1) := by decide +kernel
theorem k_Main_outside_21 : decode Y_Main_outside.2.1 21 = .ok (.ireturn, 1) := by decide +kernel
theorem k_Main_soundsWell_0 : decode Y_Main_soundsWell.2.1 0 = .ok (.iload_n 0, 1) := by decide +kernel
theorem k_Main_soundsWell_1 : decode Y_Main_soundsWell.2.1 1 = .ok (.iload_n 1, 1) := by decide +kernel
theorem k_Main_soundsWell_2 : decode Y_Main_soundsWell.2.1 2 = .ok (.invokestatic 233, 3) := by decide +kernel
theorem k_Main_soundsWell_5 : decode Y_Main_soundsWell.2.1 5 = .ok (.bipush 7, 2) := by decide +kernel
theorem k_Main_soundsWell_7 : decode Y_Main_soundsWell.2.1 7 = .ok (.irem, 1) := by decide +kernel
theorem k_Main_soundsWell_8 : decode Y_Main_soundsWell.2.1 8 = .ok (.ishr, 1) := by decide +kernel
theorem k_Main_soundsWell_9 : decode Y_Main_soundsWell.2.1 9 = .ok (.iconst 1, 1) := by decide +kernel
theorem k_Main_soundsWell_10 : decode Y_Main_soundsWell.2.1 10 = .ok (.iand, 1) := by decide +kernel
theorem k_Main_soundsWell_11 : decode Y_Main_soundsWell.2.1 11 = .ok (.iconst 1, 1) := by decide +kernel
theorem k_Main_soundsWell_12 : decode Y_Main_soundsWell.2.1 12 = .ok (.if_icmp .ne 7, 3) := by decide +kernel
theorem k_Main_soundsWell_15 : decode Y_Main_soundsWell.2.1 15 = .ok (.iconst 1, 1) := by decide +kernel
theorem k_Main_soundsWell_16 : decode Y_Main_soundsWell.2.1 16 = .ok (.goto 4, 3) := by decide +kernel
theorem k_Main_soundsWell_19 : decode Y_Main_soundsWell.2.1 19 = .ok (.iconst 0, 1) := by decide +kernel
theorem k_Main_soundsWell_20 : decode Y_Main_soundsWell.2.1 20 = .ok (.ireturn, 1) := by decide +kernel
theorem k_Main_refuse_0 : decode Y_Main_refuse.2.1 0 = .ok (.iconst (-1), 1) := by decide +kernel
theorem k_Main_refuse_1 : decode Y_Main_refuse.2.1 1 = .ok (.iload_n 1, 1) := by decide +kernel
theorem k_Main_refuse_2 : decode Y_Main_refuse.2.1 2 = .ok (.isub, 1) := by decide +kernel
theorem k_Main_refuse_3 : decode Y_Main_refuse.2.1 3 = .ok (.istore_n 2, 1) := by decide +kernel
theorem k_Main_refuse_4 : decode Y_Main_refuse.2.1 4 = .ok (.aload_n 0, 1) := by decide +kernel
theorem k_Main_refuse_5 : decode Y_Main_refuse.2.1 5 = .ok (.getfield 53, 3) := by decide +kernel
theorem k_Main_refuse_8 : decode Y_Main_refuse.2.1 8 = .ok (.iload_n 2, 1) := by decide +kernel
theorem k_Main_refuse_9 : decode Y_Main_refuse.2.1 9 = .ok (.aload_n 0, 1) := by decide +kernel
theorem k_Main_refuse_10 : decode Y_Main_refuse.2.1 10 = .ok (.getfield 53, 3) := by decide +kernel
theorem k_Main_refuse_13 : decode Y_Main_refuse.2.1 13 = .ok (.iload_n 2, 1) := by decide +kernel
theorem k_Main_refuse_14 : decode Y_Main_refuse.2.1 14 = .ok (.invokevirtual 230, 3) := by decide +kernel
theorem k_Main_refuse_17 : decode Y_Main_refuse.2.1 17 = .ok (.iconst 1, 1) := by decide +kernel
theorem k_Main_refuse_18 : decode Y_Main_refuse.2.1 18 = .ok (.iadd, 1) := by decide +kernel
theorem k_Main_refuse_19 : decode Y_Main_refuse.2.1 19 = .ok (.invokevirtual 236, 3) := by decide +kernel
theorem k_Main_refuse_22 : decode Y_Main_refuse.2.1 22 = .ok (.iload_n 1, 1) := by decide +kernel
theorem k_Main_refuse_23 : decode Y_Main_refuse.2.1 23 = .ok (.ireturn, 1) := by decide +kernel
theorem k_Model_no_0 : decode Y_Model_no.2.1 0 = .ok (.aload_n 0, 1) := by decide +kernel
theorem k_Model_no_1 : decode Y_Model_no.2.1 1 = .ok (.getfield 1, 3) := by decide +kernel
theorem k_Model_no_4 : decode Y_Model_no.2.1 4 = .ok (.iload_n 1, 1) := by decide +kernel
theorem k_Model_no_5 : decode Y_Model_no.2.1 5 = .ok (.ineg, 1) := by decide +kernel
theorem k_Model_no_6 : decode Y_Model_no.2.1 6 = .ok (.dup2, 1) := by decide +kernel
theorem k_Model_no_7 : decode Y_Model_no.2.1 7 = .ok (.iaload, 1) := by decide +kernel
theorem k_Model_no_8 : decode Y_Model_no.2.1 8 = .ok (.iconst 1, 1) := by decide +kernel
theorem k_Model_no_9 : decode Y_Model_no.2.1 9 = .ok (.iadd, 1) := by decide +kernel
theorem k_Model_no_10 : decode Y_Model_no.2.1 10 = .ok (.iastore, 1) := by decide +kernel
theorem k_Model_no_11 : decode Y_Model_no.2.1 11 = .ok (.iload_n 1, 1) := by decide +kernel
theorem k_Model_no_12 : decode Y_Model_no.2.1 12 = .ok (.ireturn, 1) := by decide +kernel
theorem k_Model_init_0 : decode Y_Model_init.2.1 0 = .ok (.aload_n 0, 1) := by decide +kernel
theorem k_Model_init_1 : decode Y_Model_init.2.1 1 = .ok (.invokespecial 7, 3) := by decide +kernel
theorem k_Model_init_4 : decode Y_Model_init.2.1 4 = .ok (.aload_n 0, 1) := by decide +kernel
theorem k_Model_init_5 : decode Y_Model_init.2.1 5 = .ok (.bipush 7, 2) := by decide +kernel
theorem k_Model_init_7 : decode Y_Model_init.2.1 7 = .ok (.newarray .int, 2) := by decide +kernel
theorem k_Model_init_9 : decode Y_Model_init.2.1 9 = .ok (.putfield 1, 3) := by decide +kernel
theorem k_Model_init_12 : decode Y_Model_init.2.1 12 = .ok (.aload_n 0, 1) := by decide +kernel
theorem k_Model_init_13 : decode Y_Model_init.2.1 13 = .ok (.bipush 80, 2) := by decide +kernel
theorem k_Model_init_15 : decode Y_Model_init.2.1 15 = .ok (.newarray .int, 2) := by decide +kernel
theorem k_Model_init_17 : decode Y_Model_init.2.1 17 = .ok (.putfield 13, 3) := by decide +kernel
theorem k_Model_init_20 : decode Y_Model_init.2.1 20 = .ok (.aload_n 0, 1) := by decide +kernel
theorem k_Model_init_21 : decode Y_Model_init.2.1 21 = .ok (.bipush 80, 2) := by decide +kernel
theorem k_Model_init_23 : decode Y_Model_init.2.1 23 = .ok (.newarray .int, 2) := by decide +kernel
theorem k_Model_init_25 : decode Y_Model_init.2.1 25 = .ok (.putfield 16, 3) := by decide +kernel
theorem k_Model_init_28 : decode Y_Model_init.2.1 28 = .ok (.aload_n 0, 1) := by decide +kernel
theorem k_Model_init_29 : decode Y_Model_init.2.1 29 = .ok (.bipush 80, 2) := by decide +kernel
theorem k_Model_init_31 : decode Y_Model_init.2.1 31 = .ok (.newarray .int, 2) := by decide +kernel
theorem k_Model_init_33 : decode Y_Model_init.2.1 33 = .ok (.putfield 19, 3) := by decide +kernel
theorem k_Model_init_36 : decode Y_Model_init.2.1 36 = .ok (.aload_n 0, 1) := by decide +kernel
theorem k_Model_init_37 : decode Y_Model_init.2.1 37 = .ok (.bipush 80, 2) := by decide +kernel
theorem k_Model_init_39 : decode Y_Model_init.2.1 39 = .ok (.newarray .int, 2) := by decide +kernel
theorem k_Model_init_41 : decode Y_Model_init.2.1 41 = .ok (.putfield 22, 3) := by decide +kernel
theorem k_Model_init_44 : decode Y_Model_init.2.1 44 = .ok (.aload_n 0, 1) := by decide +kernel
theorem k_Model_init_45 : decode Y_Model_init.2.1 45 = .ok (.iconst 4, 1) := by decide +kernel
theorem k_Model_init_46 : decode Y_Model_init.2.1 46 = .ok (.newarray .char, 2) := by decide +kernel
theorem k_Model_init_48 : decode Y_Model_init.2.1 48 = .ok (.dup, 1) := by decide +kernel
theorem k_Model_init_49 : decode Y_Model_init.2.1 49 = .ok (.iconst 0, 1) := by decide +kernel
theorem k_Model_init_50 : decode Y_Model_init.2.1 50 = .ok (.bipush 110, 2) := by decide +kernel
theorem k_Model_init_52 : decode Y_Model_init.2.1 52 = .ok (.castore, 1) := by decide +kernel
theorem k_Model_init_53 : decode Y_Model_init.2.1 53 = .ok (.dup, 1) := by decide +kernel
theorem k_Model_init_54 : decode Y_Model_init.2.1 54 = .ok (.iconst 1, 1) := by decide +kernel
theorem k_Model_init_55 : decode Y_Model_init.2.1 55 = .ok (.bipush 118, 2) := by decide +kernel
theorem k_Model_init_57 : decode Y_Model_init.2.1 57 = .ok (.castore, 1) := by decide +kernel
theorem k_Model_init_58 : decode Y_Model_init.2.1 58 = .ok (.dup, 1) := by decide +kernel
theorem k_Model_init_59 : decode Y_Model_init.2.1 59 = .ok (.iconst 2, 1) := by decide +kernel
theorem k_Model_init_60 : decode Y_Model_init.2.1 60 = .ok (.bipush 114, 2) := by decide +kernel
theorem k_Model_init_62 : decode Y_Model_init.2.1 62 = .ok (.castore, 1) := by decide +kernel
theorem k_Model_init_63 : decode Y_Model_init.2.1 63 = .ok (.dup, 1) := by decide +kernel
theorem k_Model_init_64 : decode Y_Model_init.2.1 64 = .ok (.iconst 3, 1) := by decide +kernel
theorem k_Model_init_65 : decode Y_Model_init.2.1 65 = .ok (.bipush 119, 2) := by decide +kernel
theorem k_Model_init_67 : decode Y_Model_init.2.1 67 = .ok (.castore, 1) := by decide +kernel
theorem k_Model_init_68 : decode Y_Model_init.2.1 68 = .ok (.putfield 25, 3) := by decide +kernel
theorem k_Model_init_71 : decode Y_Model_init.2.1 71 = .ok (.aload_n 0, 1) := by decide +kernel
theorem k_Model_init_72 : decode Y_Model_init.2.1 72 = .ok (.bipush 6, 2) := by decide +kernel
theorem k_Model_init_74 : decode Y_Model_init.2.1 74 = .ok (.newarray .char, 2) := by decide +kernel
theorem k_Model_init_76 : decode Y_Model_init.2.1 76 = .ok (.dup, 1) := by decide +kernel
theorem k_Model_init_77 : decode Y_Model_init.2.1 77 = .ok (.iconst 0, 1) := by decide +kernel
theorem k_Model_init_78 : decode Y_Model_init.2.1 78 = .ok (.bipush 118, 2) := by decide +kernel
theorem k_Model_init_80 : decode Y_Model_init.2.1 80 = .ok (.castore, 1) := by decide +kernel
theorem k_Model_init_81 : decode Y_Model_init.2.1 81 = .ok (.dup, 1) := by decide +kernel
theorem k_Model_init_82 : decode Y_Model_init.2.1 82 = .ok (.iconst 1, 1) := by decide +kernel
theorem k_Model_init_83 : decode Y_Model_init.2.1 83 = .ok (.bipush 98, 2) := by decide +kernel
theorem k_Model_init_85 : decode Y_Model_init.2.1 85 = .ok (.castore, 1) := by decide +kernel
theorem k_Model_init_86 : decode Y_Model_init.2.1 86 = .ok (.dup, 1) := by decide +kernel
theorem k_Model_init_87 : decode Y_Model_init.2.1 87 = .ok (.iconst 2, 1) := by decide +kernel
theorem k_Model_init_88 : decode Y_Model_init.2.1 88 = .ok (.bipush 116, 2) := by decide +kernel
theorem k_Model_init_90 : decode Y_Model_init.2.1 90 = .ok (.castore, 1) := by decide +kernel
theorem k_Model_init_91 : decode Y_Model_init.2.1 91 = .ok (.dup, 1) := by decide +kernel
theorem k_Model_init_92 : decode Y_Model_init.2.1 92 = .ok (.iconst 3, 1) := by decide +kernel
theorem k_Model_init_93 : decode Y_Model_init.2.1 93 = .ok (.bipush 115, 2) := by decide +kernel
theorem k_Model_init_95 : decode Y_Model_init.2.1 95 = .ok (.castore, 1) := by decide +kernel
theorem k_Model_init_96 : decode Y_Model_init.2.1 96 = .ok (.dup, 1) := by decide +kernel
theorem k_Model_init_97 : decode Y_Model_init.2.1 97 = .ok (.iconst 4, 1) := by decide +kernel
theorem k_Model_init_98 : decode Y_Model_init.2.1 98 = .ok (.bipush 102, 2) := by decide +kernel
theorem k_Model_init_100 : decode Y_Model_init.2.1 100 = .ok (.castore, 1) := by decide +kernel
theorem k_Model_init_101 : decode Y_Model_init.2.1 101 = .ok (.dup, 1) := by decide +kernel
theorem k_Model_init_102 : decode Y_Model_init.2.1 102 = .ok (.iconst 5, 1) := by decide +kernel
theorem k_Model_init_103 : decode Y_Model_init.2.1 103 = .ok (.bipush 120, 2) := by decide +kernel
theorem k_Model_init_105 : decode Y_Model_init.2.1 105 = .ok (.castore, 1) := by decide +kernel
theorem k_Model_init_106 : decode Y_Model_init.2.1 106 = .ok (.putfield 29, 3) := by decide +kernel
theorem k_Model_init_109 : decode Y_Model_init.2.1 109 = .ok (.aload_n 0, 1) := by decide +kernel
theorem k_Model_init_110 : decode Y_Model_init.2.1 110 = .ok (.iconst 3, 1) := by decide +kernel
theorem k_Model_init_111 : decode Y_Model_init.2.1 111 = .ok (.newarray .int, 2) := by decide +kernel
theorem k_Model_init_113 : decode Y_Model_init.2.1 113 = .ok (.putfield 32, 3) := by decide +kernel
theorem k_Model_init_116 : decode Y_Model_init.2.1 116 = .ok (.aload_n 0, 1) := by decide +kernel
theorem k_Model_init_117 : decode Y_Model_init.2.1 117 = .ok (.bipush 6, 2) := by decide +kernel
theorem k_Model_init_119 : decode Y_Model_init.2.1 119 = .ok (.newarray .int, 2) := by decide +kernel
theorem k_Model_init_121 : decode Y_Model_init.2.1 121 = .ok (.putfield 35, 3) := by decide +kernel
theorem k_Model_init_124 : decode Y_Model_init.2.1 124 = .ok (.aload_n 0, 1) := by decide +kernel
theorem k_Model_init_125 : decode Y_Model_init.2.1 125 = .ok (.bipush 12, 2) := by decide +kernel
theorem k_Model_init_127 : decode Y_Model_init.2.1 127 = .ok (.newarray .int, 2) := by decide +kernel
theorem k_Model_init_129 : decode Y_Model_init.2.1 129 = .ok (.putfield 38, 3) := by decide +kernel
theorem k_Model_init_132 : decode Y_Model_init.2.1 132 = .ok (.aload_n 0, 1) := by decide +kernel
theorem k_Model_init_133 : decode Y_Model_init.2.1 133 = .ok (.getfield 13, 3) := by decide +kernel
theorem k_Model_init_136 : decode Y_Model_init.2.1 136 = .ok (.iconst 2, 1) := by decide +kernel
theorem k_Model_init_137 : decode Y_Model_init.2.1 137 = .ok (.iconst 1, 1) := by decide +kernel
theorem k_Model_init_138 : decode Y_Model_init.2.1 138 = .ok (.iastore, 1) := by decide +kernel
theorem k_Model_init_139 : decode Y_Model_init.2.1 139 = .ok (.aload_n 0, 1) := by decide +kernel
theorem k_Model_init_140 : decode Y_Model_init.2.1 140 = .ok (.getfield 13, 3) := by decide +kernel
theorem k_Model_init_143 : decode Y_Model_init.2.1 143 = .ok (.iconst 4, 1) := by decide +kernel
theorem k_Model_init_144 : decode Y_Model_init.2.1 144 = .ok (.bipush 53, 2) := by decide +kernel
theorem k_Model_init_146 : decode Y_Model_init.2.1 146 = .ok (.iastore, 1) := by decide +kernel
theorem k_Model_init_147 : decode Y_Model_init.2.1 147 = .ok (.return_, 1) := by decide +kernel
theorem k_Model_move_0 : decode Y_Model_move.2.1 0 = .ok (.iconst 0, 1) := by decide +kernel
theorem k_Model_move_1 : decode Y_Model_move.2.1 1 = .ok (.istore_n 2, 1) := by decide +kernel
theorem k_Model_move_2 : decode Y_Model_move.2.1 2 = .ok (.iload_n 2, 1) := by decide +kernel
theorem k_Model_move_3 : decode Y_Model_move.2.1 3 = .ok (.bipush 80, 2) := by decide +kernel
theorem k_Model_move_5 : decode Y_Model_move.2.1 5 = .ok (.if_icmp .ge 15, 3) := by decide +kernel
theorem k_Model_move_8 : decode Y_Model_move.2.1 8 = .ok (.aload_n 1, 1) := by decide +kernel
theorem k_Model_move_9 : decode Y_Model_move.2.1 9 = .ok (.iload_n 2, 1) := by decide +kernel
theorem k_Model_move_10 : decode Y_Model_move.2.1 10 = .ok (.aload_n 0, 1) := by decide +kernel
theorem k_Model_move_11 : decode Y_Model_move.2.1 11 = .ok (.iload_n 2, 1) := by decide +kernel
theorem k_Model_move_12 : decode Y_Model_move.2.1 12 = .ok (.iaload, 1) := by decide +kernel
theorem k_Model_move_13 : decode Y_Model_move.2.1 13 = .ok (.iastore, 1) := by decide +kernel
theorem k_Model_move_14 : decode Y_Model_move.2.1 14 = .ok (.iinc 2 1, 3) := by decide +kernel
theorem k_Model_move_17 : decode Y_Model_move.2.1 17 = .ok (.goto (-15), 3) := by decide +kernel
theorem k_Model_move_20 : decode Y_Model_move.2.1 20 = .ok (.return_, 1) := by decide +kernel
theorem k_Model_image_0 : decode Y_Model_image.2.1 0 = .ok (.aload_n 0, 1) := by decide +kernel
theorem k_Model_image_1 : decode Y_Model_image.2.1 1 = .ok (.iconst 1, 1) := by decide +kernel
theorem k_Model_image_2 : decode Y_Model_image.2.1 2 = .ok (.putfield 41, 3) := by decide +kernel
theorem k_Model_image_5 : decode Y_Model_image.2.1 5 = .ok (.aload_n 0, 1) := by decide +kernel
theorem k_Model_image_6 : decode Y_Model_image.2.1 6 = .ok (.getfield 13, 3) := by decide +kernel
theorem k_Model_image_9 : decode Y_Model_image.2.1 9 = .ok (.aload_n 0, 1) := by decide +kernel
theorem k_Model_image_10 : decode Y_Model_image.2.1 10 = .ok (.getfield 16, 3) := by decide +kernel
theorem k_Model_image_13 : decode Y_Model_image.2.1 13 = .ok (.invokestatic 45, 3) := by decide +kernel
theorem k_Model_image_16 : decode Y_Model_image.2.1 16 = .ok (.aload_n 0, 1) := by decide +kernel
theorem k_Model_image_17 : decode Y_Model_image.2.1 17 = .ok (.getfield 13, 3) := by decide +kernel
theorem k_Model_image_20 : decode Y_Model_image.2.1 20 = .ok (.iconst 0, 1) := by decide +kernel
theorem k_Model_image_21 : decode Y_Model_image.2.1 21 = .ok (.iaload, 1) := by decide +kernel
theorem k_Model_image_22 : decode Y_Model_image.2.1 22 = .ok (.ireturn, 1) := by decide +kernel
theorem k_Model_on_0 : decode Y_Model_on.2.1 0 = .ok (.aload_n 0, 1) := by decide +kernel
theorem k_Model_on_1 : decode Y_Model_on.2.1 1 = .ok (.getfield 41, 3) := by decide +kernel
theorem k_Model_on_4 : decode Y_Model_on.2.1 4 = .ok (.ifCond .ne 10, 3) := by decide +kernel
theorem k_Model_on_7 : decode Y_Model_on.2.1 7 = .ok (.aload_n 0, 1) := by decide +kernel
theorem k_Model_on_8 : decode Y_Model_on.2.1 8 = .ok (.bipush (-3), 2) := by decide +kernel
theorem k_Model_on_10 : decode Y_Model_on.2.1 10 = .ok (.invokevirtual 49, 3) := by decide +kernel
theorem k_Model_on_13 : decode Y_Model_on.2.1 13 = .ok (.ireturn, 1) := by decide +kernel
theorem k_Model_on_14 : decode Y_Model_on.2.1 14 = .ok (.aload_n 0, 1) := by decide +kernel
theorem k_Model_on_15 : decode Y_Model_on.2.1 15 = .ok (.getfield 16, 3) := by decide +kernel
theorem k_Model_on_18 : decode Y_Model_on.2.1 18 = .ok (.aload_n 0, 1) := by decide +kernel
theorem k_Model_on_19 : decode Y_Model_on.2.1 19 = .ok (.getfield 13, 3) := by decide +kernel
theorem k_Model_on_22 : decode Y_Model_on.2.1 22 = .ok (.invokestatic 45, 3) := by decide +kernel
theorem k_Model_on_25 : decode Y_Model_on.2.1 25 = .ok (.aload_n 0, 1) := by decide +kernel
theorem k_Model_on_26 : decode Y_Model_on.2.1 26 = .ok (.getfield 13, 3) := by decide +kernel
theorem k_Model_on_29 : decode Y_Model_on.2.1 29 = .ok (.iconst 0, 1) := by decide +kernel
theorem k_Model_on_30 : decode Y_Model_on.2.1 30 = .ok (.iaload, 1) := by decide +kernel
theorem k_Model_on_31 : decode Y_Model_on.2.1 31 = .ok (.ireturn, 1) := by decide +kernel
theorem k_Model_letter_0 : decode Y_Model_letter.2.1 0 = .ok (.iload_n 1, 1) := by decide +kernel
theorem k_Model_letter_1 : decode Y_Model_letter.2.1 1 = .ok (.ifCond .ge 10, 3) := by decide +kernel
theorem k_Model_letter_4 : decode Y_Model_letter.2.1 4 = .ok (.aload_n 0, 1) := by decide +kernel
theorem k_Model_letter_5 : decode Y_Model_letter.2.1 5 = .ok (.bipush (-4), 2) := by decide +kernel
theorem k_Model_letter_7 : decode Y_Model_letter.2.1 7 = .ok (.invokevirtual 49, 3) := by decide +kernel
theorem k_Model_letter_10 : decode Y_Model_letter.2.1 10 = .ok (.ireturn, 1) := by decide +kernel
theorem k_Model_letter_11 : decode Y_Model_letter.2.1 11 = .ok (.iload_n 1, 1) := by decide +kernel
theorem k_Model_letter_12 : decode Y_Model_letter.2.1 12 = .ok (.sipush 255, 3) := by decide +kernel
theorem k_Model_letter_15 : decode Y_Model_letter.2.1 15 = .ok (.if_icmp .gt 12, 3) := by decide +kernel
theorem k_Model_letter_18 : decode Y_Model_letter.2.1 18 = .ok (.aload_n 0, 1) := by decide +kernel
theorem k_Model_letter_19 : decode Y_Model_letter.2.1 19 = .ok (.getfield 53, 3) := by decide +kernel
theorem k_Model_letter_22 : decode Y_Model_letter.2.1 22 = .ok (.bipush 80, 2) := by decide +kernel
theorem k_Model_letter_24 : decode Y_Model_letter.2.1 24 = .ok (.if_icmp .ne 10, 3) := by decide +kernel
theorem k_Model_letter_27 : decode Y_Model_letter.2.1 27 = .ok (.aload_n 0, 1) := by decide +kernel
theorem k_Model_letter_28 : decode Y_Model_letter.2.1 28 = .ok (.bipush (-6), 2) := by decide +kernel
theorem k_Model_letter_30 : decode Y_Model_letter.2.1 30 = .ok (.invokevirtual 49, 3) := by decide +kernel
theorem k_Model_letter_33 : decode Y_Model_letter.2.1 33 = .ok (.ireturn, 1) := by decide +kernel
theorem k_Model_letter_34 : decode Y_Model_letter.2.1 34 = .ok (.aload_n 0, 1) := by decide +kernel
theorem k_Model_letter_35 : decode Y_Model_letter.2.1 35 = .ok (.getfield 22, 3) := by decide +kernel
theorem k_Model_letter_38 : decode Y_Model_letter.2.1 38 = .ok (.aload_n 0, 1) := by decide +kernel
theorem k_Model_letter_39 : decode Y_Model_letter.2.1 39 = .ok (.getfield 53, 3) := by decide +kernel
theorem k_Model_letter_42 : decode Y_Model_letter.2.1 42 = .ok (.iload_n 1, 1) := by decide +kernel
theorem k_Model_letter_43 : decode Y_Model_letter.2.1 43 = .ok (.iastore, 1) := by decide +kernel
theorem k_Model_letter_44 : decode Y_Model_letter.2.1 44 = .ok (.aload_n 0, 1) := by decide +kernel
theorem k_Model_letter_45 : decode Y_Model_letter.2.1 45 = .ok (.dup, 1) := by decide +kernel
theorem k_Model_letter_46 : decode Y_Model_letter.2.1 46 = .ok (.getfield 53, 3) := by decide +kernel
theorem k_Model_letter_49 : decode Y_Model_letter.2.1 49 = .ok (.iconst 1, 1) := by decide +kernel
theorem k_Model_letter_50 : decode Y_Model_letter.2.1 50 = .ok (.iadd, 1) := by decide +kernel
theorem k_Model_letter_51 : decode Y_Model_letter.2.1 51 = .ok (.putfield 53, 3) := by decide +kernel
theorem k_Model_letter_54 : decode Y_Model_letter.2.1 54 = .ok (.aload_n 0, 1) := by decide +kernel
theorem k_Model_letter_55 : decode Y_Model_letter.2.1 55 = .ok (.getfield 53, 3) := by decide +kernel
theorem k_Model_letter_58 : decode Y_Model_letter.2.1 58 = .ok (.ireturn, 1) := by decide +kernel
theorem k_Model_expect_0 : decode Y_Model_expect.2.1 0 = .ok (.aload_n 0, 1) := by decide +kernel
theorem k_Model_expect_1 : decode Y_Model_expect.2.1 1 = .ok (.getfield 57, 3) := by decide +kernel
theorem k_Model_expect_4 : decode Y_Model_expect.2.1 4 = .ok (.ifCond .eq 40, 3) := by decide +kernel
theorem k_Model_expect_7 : decode Y_Model_expect.2.1 7 = .ok (.aload_n 0, 1) := by decide +kernel
theorem k_Model_expect_8 : decode Y_Model_expect.2.1 8 = .ok (.getfield 60, 3) := by decide +kernel
theorem k_Model_expect_11 : decode Y_Model_expect.2.1 11 = .ok (.aload_n 0, 1) := by decide +kernel
theorem k_Model_expect_12 : decode Y_Model_expect.2.1 12 = .ok (.getfield 53, 3) := by decide +kernel
theorem k_Model_expect_15 : decode Y_Model_expect.2.1 15 = .ok (.if_icmp .ge 29, 3) := by decide +kernel
theorem k_Model_expect_18 : decode Y_Model_expect.2.1 18 = .ok (.aload_n 0, 1) := by decide +kernel
theorem k_Model_expect_19 : decode Y_Model_expect.2.1 19 = .ok (.getfield 22, 3) := by decide +kernel
theorem k_Model_expect_22 : decode Y_Model_expect.2.1 22 = .ok (.aload_n 0, 1) := by decide +kernel
theorem k_Model_expect_23 : decode Y_Model_expect.2.1 23 = .ok (.getfield 60, 3) := by decide +kernel
theorem k_Model_expect_26 : decode Y_Model_expect.2.1 26 = .ok (.iaload, 1) := by decide +kernel
theorem k_Model_expect_27 : decode Y_Model_expect.2.1 27 = .ok (.iload_n 1, 1) := by decide +kernel
theorem k_Model_expect_28 : decode Y_Model_expect.2.1 28 = .ok (.if_icmp .ne 16, 3) := by decide +kernel
theorem k_Model_expect_31 : decode Y_Model_expect.2.1 31 = .ok (.aload_n 0, 1) := by decide +kernel
theorem k_Model_expect_32 : decode Y_Model_expect.2.1 32 = .ok (.dup, 1) := by decide +kernel
theorem k_Model_expect_33 : decode Y_Model_expect.2.1 33 = .ok (.getfield 60, 3) := by decide +kernel
theorem k_Model_expect_36 : decode Y_Model_expect.2.1 36 = .ok (.iconst 1, 1) := by decide +kernel
theorem k_Model_expect_37 : decode Y_Model_expect.2.1 37 = .ok (.iadd, 1) := by decide +kernel
theorem k_Model_expect_38 : decode Y_Model_expect.2.1 38 = .ok (.putfield 60, 3) := by decide +kernel
theorem k_Model_expect_41 : decode Y_Model_expect.2.1 41 = .ok (.goto 8, 3) := by decide +kernel
theorem k_Model_expect_44 : decode Y_Model_expect.2.1 44 = .ok (.aload_n 0, 1) := by decide +kernel
theorem k_Model_expect_45 : decode Y_Model_expect.2.1 45 = .ok (.iconst 0, 1) := by decide +kernel
theorem k_Model_expect_46 : decode Y_Model_expect.2.1 46 = .ok (.putfield 57, 3) := by decide +kernel
theorem k_Model_expect_49 : decode Y_Model_expect.2.1 49 = .ok (.return_, 1) := by decide +kernel
theorem k_Model_oneOf_0 : decode Y_Model_oneOf.2.1 0 = .ok (.iconst (-1), 1) := by decide +kernel
theorem k_Model_oneOf_1 : decode Y_Model_oneOf.2.1 1 = .ok (.istore_n 2, 1) := by decide +kernel
theorem k_Model_oneOf_2 : decode Y_Model_oneOf.2.1 2 = .ok (.iconst 0, 1) := by decide +kernel
theorem k_Model_oneOf_3 : decode Y_Model_oneOf.2.1 3 = .ok (.istore_n 3, 1) := by decide +kernel
theorem k_Model_oneOf_4 : decode Y_Model_oneOf.2.1 4 = .ok (.iload_n 3, 1) := by decide +kernel
theorem k_Model_oneOf_5 : decode Y_Model_oneOf.2.1 5 = .ok (.aload_n 1, 1) := by decide +kernel
theorem k_Model_oneOf_6 : decode Y_Model_oneOf.2.1 6 = .ok (.arraylength, 1) := by decide +kernel
theorem k_Model_oneOf_7 : decode Y_Model_oneOf.2.1 7 = .ok (.if_icmp .ge 48, 3) := by decide +kernel
theorem k_Model_oneOf_10 : decode Y_Model_oneOf.2.1 10 = .ok (.aload_n 0, 1) := by decide +kernel
theorem k_Model_oneOf_11 : decode Y_Model_oneOf.2.1 11 = .ok (.getfield 57, 3) := by decide +kernel
theorem k_Model_oneOf_14 : decode Y_Model_oneOf.2.1 14 = .ok (.ifCond .eq 41, 3) := by decide +kernel
theorem k_Model_oneOf_17 : decode Y_Model_oneOf.2.1 17 = .ok (.iload_n 2, 1) := by decide +kernel
theorem k_Model_oneOf_18 : decode Y_Model_oneOf.2.1 18 = .ok (.ifCond .ge 37, 3) := by decide +kernel
theorem k_Model_oneOf_21 : decode Y_Model_oneOf.2.1 21 = .ok (.aload_n 0, 1) := by decide +kernel
theorem k_Model_oneOf_22 : decode Y_Model_oneOf.2.1 22 = .ok (.getfield 60, 3) := by decide +kernel
theorem k_Model_oneOf_25 : decode Y_Model_oneOf.2.1 25 = .ok (.aload_n 0, 1) := by decide +kernel
theorem k_Model_oneOf_26 : decode Y_Model_oneOf.2.1 26 = .ok (.getfield 53, 3) := by decide +kernel
theorem k_Model_oneOf_29 : decode Y_Model_oneOf.2.1 29 = .ok (.if_icmp .ge 20, 3) := by decide +kernel
theorem k_Model_oneOf_32 : decode Y_Model_oneOf.2.1 32 = .ok (.aload_n 0, 1) := by decide +kernel
theorem k_Model_oneOf_33 : decode Y_Model_oneOf.2.1 33 = .ok (.getfield 22, 3) := by decide +kernel
theorem k_Model_oneOf_36 : decode Y_Model_oneOf.2.1 36 = .ok (.aload_n 0, 1) := by decide +kernel
theorem k_Model_oneOf_37 : decode Y_Model_oneOf.2.1 37 = .ok (.getfield 60, 3) := by decide +kernel
theorem k_Model_oneOf_40 : decode Y_Model_oneOf.2.1 40 = .ok (.iaload, 1) := by decide +kernel
theorem k_Model_oneOf_41 : decode Y_Model_oneOf.2.1 41 = .ok (.aload_n 1, 1) := by decide +kernel
theorem k_Model_oneOf_42 : decode Y_Model_oneOf.2.1 42 = .ok (.iload_n 3, 1) := by decide +kernel
theorem k_Model_oneOf_43 : decode Y_Model_oneOf.2.1 43 = .ok (.caload, 1) := by decide +kernel
theorem k_Model_oneOf_44 : decode Y_Model_oneOf.2.1 44 = .ok (.if_icmp .ne 5, 3) := by decide +kernel
theorem k_Model_oneOf_47 : decode Y_Model_oneOf.2.1 47 = .ok (.iload_n 3, 1) := by decide +kernel
theorem k_Model_oneOf_48 : decode Y_Model_oneOf.2.1 48 = .ok (.istore_n 2, 1) := by decide +kernel
theorem k_Model_oneOf_49 : decode Y_Model_oneOf.2.1 49 = .ok (.iinc 3 1, 3) := by decide +kernel
theorem k_Model_oneOf_52 : decode Y_Model_oneOf.2.1 52 = .ok (.goto (-48), 3) := by decide +kernel
theorem k_Model_oneOf_55 : decode Y_Model_oneOf.2.1 55 = .ok (.iload_n 2, 1) := by decide +kernel
theorem k_Model_oneOf_56 : decode Y_Model_oneOf.2.1 56 = .ok (.ifCond .ge 10, 3) := by decide +kernel
theorem k_Model_oneOf_59 : decode Y_Model_oneOf.2.1 59 = .ok (.aload_n 0, 1) := by decide +kernel
theorem k_Model_oneOf_60 : decode Y_Model_oneOf.2.1 60 = .ok (.iconst 0, 1) := by decide +kernel
theorem k_Model_oneOf_61 : decode Y_Model_oneOf.2.1 61 = .ok (.putfield 57, 3) := by decide +kernel
theorem k_Model_oneOf_64 : decode Y_Model_oneOf.2.1 64 = .ok (.iconst 0, 1) := by decide +kernel
theorem k_Model_oneOf_65 : decode Y_Model_oneOf.2.1 65 = .ok (.ireturn, 1) := by decide +kernel
theorem k_Model_oneOf_66 : decode Y_Model_oneOf.2.1 66 = .ok (.aload_n 0, 1) := by decide +kernel
theorem k_Model_oneOf_67 : decode Y_Model_oneOf.2.1 67 = .ok (.dup, 1) := by decide +kernel
theorem k_Model_oneOf_68 : decode Y_Model_oneOf.2.1 68 = .ok (.getfield 60, 3) := by decide +kernel
theorem k_Model_oneOf_71 : decode Y_Model_oneOf.2.1 71 = .ok (.iconst 1, 1) := by decide +kernel
theorem k_Model_oneOf_72 : decode Y_Model_oneOf.2.1 72 = .ok (.iadd, 1) := by decide +kernel
theorem k_Model_oneOf_73 : decode Y_Model_oneOf.2.1 73 = .ok (.putfield 60, 3) := by decide +kernel
theorem k_Model_oneOf_76 : decode Y_Model_oneOf.2.1 76 = .ok (.iload_n 2, 1) := by decide +kernel
theorem k_Model_oneOf_77 : decode Y_Model_oneOf.2.1 77 = .ok (.ireturn, 1) := by decide +kernel
theorem k_Model_figures_0 : decode Y_Model_figures.2.1 0 = .ok (.iconst 0, 1) := by decide +kernel
theorem k_Model_figures_1 : decode Y_Model_figures.2.1 1 = .ok (.istore_n 2, 1) := by decide +kernel
theorem k_Model_figures_2 : decode Y_Model_figures.2.1 2 = .ok (.iconst 0, 1) := by decide +kernel
theorem k_Model_figures_3 : decode Y_Model_figures.2.1 3 = .ok (.istore_n 3, 1) := by decide +kernel
theorem k_Model_figures_4 : decode Y_Model_figures.2.1 4 = .ok (.aload_n 0, 1) := by decide +kernel
theorem k_Model_figures_5 : decode Y_Model_figures.2.1 5 = .ok (.getfield 57, 3) := by decide +kernel
theorem k_Model_figures_8 : decode Y_Model_figures.2.1 8 = .ok (.ifCond .eq 81, 3) := by decide +kernel
theorem k_Model_figures_11 : decode Y_Model_figures.2.1 11 = .ok (.iload_n 3, 1) := by decide +kernel
theorem k_Model_figures_12 : decode Y_Model_figures.2.1 12 = .ok (.iload_n 1, 1) := by decide +kernel
theorem k_Model_figures_13 : decode Y_Model_figures.2.1 13 = .ok (.if_icmp .ge 76, 3) := by decide +kernel
theorem k_Model_figures_16 : decode Y_Model_figures.2.1 16 = .ok (.aload_n 0, 1) := by decide +kernel
theorem k_Model_figures_17 : decode Y_Model_figures.2.1 17 = .ok (.getfield 60, 3) := by decide +kernel
theorem k_Model_figures_20 : decode Y_Model_figures.2.1 20 = .ok (.aload_n 0, 1) := by decide +kernel
theorem k_Model_figures_21 : decode Y_Model_figures.2.1 21 = .ok (.getfield 53, 3) := by decide +kernel
theorem k_Model_figures_24 : decode Y_Model_figures.2.1 24 = .ok (.if_icmp .ge 65, 3) := by decide +kernel
theorem k_Model_figures_27 : decode Y_Model_figures.2.1 27 = .ok (.aload_n 0, 1) := by decide +kernel
theorem k_Model_figures_28 : decode Y_Model_figures.2.1 28 = .ok (.getfield 22, 3) := by decide +kernel
theorem k_Model_figures_31 : decode Y_Model_figures.2.1 31 = .ok (.aload_n 0, 1) := by decide +kernel
theorem k_Model_figures_32 : decode Y_Model_figures.2.1 32 = .ok (.getfield 60, 3) := by decide +kernel
theorem k_Model_figures_35 : decode Y_Model_figures.2.1 35 = .ok (.iaload, 1) := by decide +kernel
theorem k_Model_figures_36 : decode Y_Model_figures.2.1 36 = .ok (.bipush 48, 2) := by decide +kernel
theorem k_Model_figures_38 : decode Y_Model_figures.2.1 38 = .ok (.if_icmp .lt 51, 3) := by decide +kernel
theorem k_Model_figures_41 : decode Y_Model_figures.2.1 41 = .ok (.aload_n 0, 1) := by decide +kernel
theorem k_Model_figures_42 : decode Y_Model_figures.2.1 42 = .ok (.getfield 22, 3) := by decide +kernel
theorem k_Model_figures_45 : decode Y_Model_figures.2.1 45 = .ok (.aload_n 0, 1) := by decide +kernel
theorem k_Model_figures_46 : decode Y_Model_figures.2.1 46 = .ok (.getfield 60, 3) := by decide +kernel
theorem k_Model_figures_49 : decode Y_Model_figures.2.1 49 = .ok (.iaload, 1) := by decide +kernel
theorem k_Model_figures_50 : decode Y_Model_figures.2.1 50 = .ok (.bipush 57, 2) := by decide +kernel
theorem k_Model_figures_52 : decode Y_Model_figures.2.1 52 = .ok (.if_icmp .gt 37, 3) := by decide +kernel
theorem k_Model_figures_55 : decode Y_Model_figures.2.1 55 = .ok (.bipush 10, 2) := by decide +kernel
theorem k_Model_figures_57 : decode Y_Model_figures.2.1 57 = .ok (.iload_n 2, 1) := by decide +kernel
theorem k_Model_figures_58 : decode Y_Model_figures.2.1 58 = .ok (.imul, 1) := by decide +kernel
theorem k_Model_figures_59 : decode Y_Model_figures.2.1 59 = .ok (.aload_n 0, 1) := by decide +kernel
theorem k_Model_figures_60 : decode Y_Model_figures.2.1 60 = .ok (.getfield 22, 3) := by decide +kernel
theorem k_Model_figures_63 : decode Y_Model_figures.2.1 63 = .ok (.aload_n 0, 1) := by decide +kernel
theorem k_Model_figures_64 : decode Y_Model_figures.2.1 64 = .ok (.getfield 60, 3) := by decide +kernel
theorem k_Model_figures_67 : decode Y_Model_figures.2.1 67 = .ok (.iaload, 1) := by decide +kernel
theorem k_Model_figures_68 : decode Y_Model_figures.2.1 68 = .ok (.iadd, 1) := by decide +kernel
theorem k_Model_figures_69 : decode Y_Model_figures.2.1 69 = .ok (.bipush 48, 2) := by decide +kernel
theorem k_Model_figures_71 : decode Y_Model_figures.2.1 71 = .ok (.isub, 1) := by decide +kernel
theorem k_Model_figures_72 : decode Y_Model_figures.2.1 72 = .ok (.istore_n 2, 1) := by decide +kernel
theorem k_Model_figures_73 : decode Y_Model_figures.2.1 73 = .ok (.aload_n 0, 1) := by decide +kernel
theorem k_Model_figures_74 : decode Y_Model_figures.2.1 74 = .ok (.dup, 1) := by decide +kernel
theorem k_Model_figures_75 : decode Y_Model_figures.2.1 75 = .ok (.getfield 60, 3) := by decide +kernel
theorem k_Model_figures_78 : decode Y_Model_figures.2.1 78 = .ok (.iconst 1, 1) := by decide +kernel
theorem k_Model_figures_79 : decode Y_Model_figures.2.1 79 = .ok (.iadd, 1) := by decide +kernel
theorem k_Model_figures_80 : decode Y_Model_figures.2.1 80 = .ok (.putfield 60, 3) := by decide +kernel
theorem k_Model_figures_83 : decode Y_Model_figures.2.1 83 = .ok (.iinc 3 1, 3) := by decide +kernel
theorem k_Model_figures_86 : decode Y_Model_figures.2.1 86 = .ok (.goto (-82), 3) := by decide +kernel
theorem k_Model_figures_89 : decode Y_Model_figures.2.1 89 = .ok (.iload_n 3, 1) := by decide +kernel
theorem k_Model_figures_90 : decode Y_Model_figures.2.1 90 = .ok (.ifCond .ne 8, 3) := by decide +kernel
theorem k_Model_figures_93 : decode Y_Model_figures.2.1 93 = .ok (.aload_n 0, 1) := by decide +kernel
theorem k_Model_figures_94 : decode Y_Model_figures.2.1 94 = .ok (.iconst 0, 1) := by decide +kernel
theorem k_Model_figures_95 : decode Y_Model_figures.2.1 95 = .ok (.putfield 57, 3) := by decide +kernel
theorem k_Model_figures_98 : decode Y_Model_figures.2.1 98 = .ok (.iload_n 2, 1) := by decide +kernel
theorem k_Model_figures_99 : decode Y_Model_figures.2.1 99 = .ok (.ireturn, 1) := by decide +kernel
theorem k_Model_statement_0 : decode Y_Model_statement.2.1 0 = .ok (.aload_n 0, 1) := by decide +kernel
theorem k_Model_statement_1 : decode Y_Model_statement.2.1 1 = .ok (.aload_n 0, 1) := by decide +kernel
theorem k_Model_statement_2 : decode Y_Model_statement.2.1 2 = .ok (.aload_n 0, 1) := by decide +kernel
theorem k_Model_statement_3 : decode Y_Model_statement.2.1 3 = .ok (.getfield 25, 3) := by decide +kernel
theorem k_Model_statement_6 : decode Y_Model_statement.2.1 6 = .ok (.invokevirtual 63, 3) := by decide +kernel
theorem k_Model_statement_9 : decode Y_Model_statement.2.1 9 = .ok (.putfield 67, 3) := by decide +kernel
theorem k_Model_statement_12 : decode Y_Model_statement.2.1 12 = .ok (.aload_n 0, 1) := by decide +kernel
theorem k_Model_statement_13 : decode Y_Model_statement.2.1 13 = .ok (.getfield 67, 3) := by decide +kernel
theorem k_Model_statement_16 : decode Y_Model_statement.2.1 16 = .ok (.iconst 1, 1) := by decide +kernel
theorem k_Model_statement_17 : decode Y_Model_statement.2.1 17 = .ok (.if_icmp .ne 48, 3) := by decide +kernel
theorem k_Model_statement_20 : decode Y_Model_statement.2.1 20 = .ok (.aload_n 0, 1) := by decide +kernel
theorem k_Model_statement_21 : decode Y_Model_statement.2.1 21 = .ok (.getfield 32, 3) := by decide +kernel
theorem k_Model_statement_24 : decode Y_Model_statement.2.1 24 = .ok (.iconst 0, 1) := by decide +kernel
theorem k_Model_statement_25 : decode Y_Model_statement.2.1 25 = .ok (.aload_n 0, 1) := by decide +kernel
theorem k_Model_statement_26 : decode Y_Model_statement.2.1 26 = .ok (.aload_n 0, 1) := by decide +kernel
theorem k_Model_statement_27 : decode Y_Model_statement.2.1 27 = .ok (.getfield 29, 3) := by decide +kernel
theorem k_Model_statement_30 : decode Y_Model_statement.2.1 30 = .ok (.invokevirtual 63, 3) := by decide +kernel
theorem k_Model_statement_33 : decode Y_Model_statement.2.1 33 = .ok (.iastore, 1) := by decide +kernel
theorem k_Model_statement_34 : decode Y_Model_statement.2.1 34 = .ok (.aload_n 0, 1) := by decide +kernel
theorem k_Model_statement_35 : decode Y_Model_statement.2.1 35 = .ok (.getfield 32, 3) := by decide +kernel
theorem k_Model_statement_38 : decode Y_Model_statement.2.1 38 = .ok (.iconst 1, 1) := by decide +kernel
theorem k_Model_statement_39 : decode Y_Model_statement.2.1 39 = .ok (.aload_n 0, 1) := by decide +kernel
theorem k_Model_statement_40 : decode Y_Model_statement.2.1 40 = .ok (.iconst 2, 1) := by decide +kernel
theorem k_Model_statement_41 : decode Y_Model_statement.2.1 41 = .ok (.invokevirtual 70, 3) := by decide +kernel
theorem k_Model_statement_44 : decode Y_Model_statement.2.1 44 = .ok (.iastore, 1) := by decide +kernel
theorem k_Model_statement_45 : decode Y_Model_statement.2.1 45 = .ok (.aload_n 0, 1) := by decide +kernel
theorem k_Model_statement_46 : decode Y_Model_statement.2.1 46 = .ok (.bipush 44, 2) := by decide +kernel
theorem k_Model_statement_48 : decode Y_Model_statement.2.1 48 = .ok (.invokevirtual 73, 3) := by decide +kernel
theorem k_Model_statement_51 : decode Y_Model_statement.2.1 51 = .ok (.aload_n 0, 1) := by decide +kernel
theorem k_Model_statement_52 : decode Y_Model_statement.2.1 52 = .ok (.getfield 32, 3) := by decide +kernel
theorem k_Model_statement_55 : decode Y_Model_statement.2.1 55 = .ok (.iconst 2, 1) := by decide +kernel
theorem k_Model_statement_56 : decode Y_Model_statement.2.1 56 = .ok (.aload_n 0, 1) := by decide +kernel
theorem k_Model_statement_57 : decode Y_Model_statement.2.1 57 = .ok (.iconst 1, 1) := by decide +kernel
theorem k_Model_statement_58 : decode Y_Model_statement.2.1 58 = .ok (.invokevirtual 70, 3) := by decide +kernel
theorem k_Model_statement_61 : decode Y_Model_statement.2.1 61 = .ok (.iastore, 1) := by decide +kernel
theorem k_Model_statement_62 : decode Y_Model_statement.2.1 62 = .ok (.goto 37, 3) := by decide +kernel
theorem k_Model_statement_65 : decode Y_Model_statement.2.1 65 = .ok (.aload_n 0, 1) := by decide +kernel
theorem k_Model_statement_66 : decode Y_Model_statement.2.1 66 = .ok (.getfield 32, 3) := by decide +kernel
theorem k_Model_statement_69 : decode Y_Model_statement.2.1 69 = .ok (.iconst 0, 1) := by decide +kernel
theorem k_Model_statement_70 : decode Y_Model_statement.2.1 70 = .ok (.aload_n 0, 1) := by decide +kernel
theorem k_Model_statement_71 : decode Y_Model_statement.2.1 71 = .ok (.iconst 1, 1) := by decide +kernel
theorem k_Model_statement_72 : decode Y_Model_statement.2.1 72 = .ok (.invokevirtual 70, 3) := by decide +kernel
theorem k_Model_statement_75 : decode Y_Model_statement.2.1 75 = .ok (.iastore, 1) := by decide +kernel
theorem k_Model_statement_76 : decode Y_Model_statement.2.1 76 = .ok (.aload_n 0, 1) := by decide +kernel
theorem k_Model_statement_77 : decode Y_Model_statement.2.1 77 = .ok (.getfield 32, 3) := by decide +kernel
theorem k_Model_statement_80 : decode Y_Model_statement.2.1 80 = .ok (.iconst 1, 1) := by decide +kernel
theorem k_Model_statement_81 : decode Y_Model_statement.2.1 81 = .ok (.aload_n 0, 1) := by decide +kernel
theorem k_Model_statement_82 : decode Y_Model_statement.2.1 82 = .ok (.getfield 67, 3) := by decide +kernel
theorem k_Model_statement_85 : decode Y_Model_statement.2.1 85 = .ok (.iconst 3, 1) := by decide +kernel
theorem k_Model_statement_86 : decode Y_Model_statement.2.1 86 = .ok (.if_icmp .ne 7, 3) := by decide +kernel
theorem k_Model_statement_89 : decode Y_Model_statement.2.1 89 = .ok (.iconst 0, 1) := by decide +kernel
theorem k_Model_statement_90 : decode Y_Model_statement.2.1 90 = .ok (.goto 8, 3) := by decide +kernel
theorem k_Model_statement_93 : decode Y_Model_statement.2.1 93 = .ok (.aload_n 0, 1) := by decide +kernel
theorem k_Model_statement_94 : decode Y_Model_statement.2.1 94 = .ok (.iconst 1, 1) := by decide +kernel
theorem k_Model_statement_95 : decode Y_Model_statement.2.1 95 = .ok (.invokevirtual 70, 3) := by decide +kernel
theorem k_Model_statement_98 : decode Y_Model_statement.2.1 98 = .ok (.iastore, 1) := by decide +kernel
theorem k_Model_statement_99 : decode Y_Model_statement.2.1 99 = .ok (.aload_n 0, 1) := by decide +kernel
theorem k_Model_statement_100 : decode Y_Model_statement.2.1 100 = .ok (.bipush 59, 2) := by decide +kernel
theorem k_Model_statement_102 : decode Y_Model_statement.2.1 102 = .ok (.invokevirtual 73, 3) := by decide +kernel
theorem k_Model_statement_105 : decode Y_Model_statement.2.1 105 = .ok (.return_, 1) := by decide +kernel
theorem k_Model_isAsItMustBe_0 : decode Y_Model_isAsItMustBe.2.1 0 = .ok (.aload_n 0, 1) := by decide +kernel
theorem k_Model_isAsItMustBe_1 : decode Y_Model_isAsItMustBe.2.1 1 = .ok (.getfield 67, 3) := by decide +kernel
theorem k_Model_isAsItMustBe_4 : decode Y_Model_isAsItMustBe.2.1 4 = .ok (.tableswitch 119 0 2 #[28, 60, 83], 28) := by decide +kernel
theorem k_Model_isAsItMustBe_32 : decode Y_Model_isAsItMustBe.2.1 32 = .ok (.aload_n 0, 1) := by decide +kernel
theorem k_Model_isAsItMustBe_33 : decode Y_Model_isAsItMustBe.2.1 33 = .ok (.getfield 32, 3) := by decide +kernel
theorem k_Model_isAsItMustBe_36 : decode Y_Model_isAsItMustBe.2.1 36 = .ok (.iconst 1, 1) := by decide +kernel
theorem k_Model_isAsItMustBe_37 : decode Y_Model_isAsItMustBe.2.1 37 = .ok (.iaload, 1) := by decide +kernel
theorem k_Model_isAsItMustBe_38 : decode Y_Model_isAsItMustBe.2.1 38 = .ok (.iconst 1, 1) := by decide +kernel
theorem k_Model_isAsItMustBe_39 : decode Y_Model_isAsItMustBe.2.1 39 = .ok (.if_icmp .lt 23, 3) := by decide +kernel
theorem k_Model_isAsItMustBe_42 : decode Y_Model_isAsItMustBe.2.1 42 = .ok (.aload_n 0, 1) := by decide +kernel
theorem k_Model_isAsItMustBe_43 : decode Y_Model_isAsItMustBe.2.1 43 = .ok (.getfield 32, 3) := by decide +kernel
theorem k_Model_isAsItMustBe_46 : decode Y_Model_isAsItMustBe.2.1 46 = .ok (.iconst 1, 1) := by decide +kernel
theorem k_Model_isAsItMustBe_47 : decode Y_Model_isAsItMustBe.2.1 47 = .ok (.iaload, 1) := by decide +kernel
theorem k_Model_isAsItMustBe_48 : decode Y_Model_isAsItMustBe.2.1 48 = .ok (.iconst 3, 1) := by decide +kernel
theorem k_Model_isAsItMustBe_49 : decode Y_Model_isAsItMustBe.2.1 49 = .ok (.if_icmp .gt 13, 3) := by decide +kernel
theorem k_Model_isAsItMustBe_52 : decode Y_Model_isAsItMustBe.2.1 52 = .ok (.iload_n 1, 1) := by decide +kernel
theorem k_Model_isAsItMustBe_53 : decode Y_Model_isAsItMustBe.2.1 53 = .ok (.bipush 12, 2) := by decide +kernel
theorem k_Model_isAsItMustBe_55 : decode Y_Model_isAsItMustBe.2.1 55 = .ok (.if_icmp .ge 7, 3) := by decide +kernel
theorem k_Model_isAsItMustBe_58 : decode Y_Model_isAsItMustBe.2.1 58 = .ok (.iconst 1, 1) := by decide +kernel
theorem k_Model_isAsItMustBe_59 : decode Y_Model_isAsItMustBe.2.1 59 = .ok (.goto 4, 3) := by decide +kernel
theorem k_Model_isAsItMustBe_62 : decode Y_Model_isAsItMustBe.2.1 62 = .ok (.iconst 0, 1) := by decide +kernel
theorem k_Model_isAsItMustBe_63 : decode Y_Model_isAsItMustBe.2.1 63 = .ok (.ireturn, 1) := by decide +kernel
theorem k_Model_isAsItMustBe_64 : decode Y_Model_isAsItMustBe.2.1 64 = .ok (.aload_n 0, 1) := by decide +kernel
theorem k_Model_isAsItMustBe_65 : decode Y_Model_isAsItMustBe.2.1 65 = .ok (.getfield 32, 3) := by decide +kernel
theorem k_Model_isAsItMustBe_68 : decode Y_Model_isAsItMustBe.2.1 68 = .ok (.iconst 1, 1) := by decide +kernel
theorem k_Model_isAsItMustBe_69 : decode Y_Model_isAsItMustBe.2.1 69 = .ok (.iaload, 1) := by decide +kernel
theorem k_Model_isAsItMustBe_70 : decode Y_Model_isAsItMustBe.2.1 70 = .ok (.bipush 60, 2) := by decide +kernel
theorem k_Model_isAsItMustBe_72 : decode Y_Model_isAsItMustBe.2.1 72 = .ok (.if_icmp .gt 13, 3) := by decide +kernel
theorem k_Model_isAsItMustBe_75 : decode Y_Model_isAsItMustBe.2.1 75 = .ok (.iload_n 2, 1) := by decide +kernel
theorem k_Model_isAsItMustBe_76 : decode Y_Model_isAsItMustBe.2.1 76 = .ok (.bipush 6, 2) := by decide +kernel
theorem k_Model_isAsItMustBe_78 : decode Y_Model_isAsItMustBe.2.1 78 = .ok (.if_icmp .ge 7, 3) := by decide +kernel
theorem k_Model_isAsItMustBe_81 : decode Y_Model_isAsItMustBe.2.1 81 = .ok (.iconst 1, 1) := by decide +kernel
theorem k_Model_isAsItMustBe_82 : decode Y_Model_isAsItMustBe.2.1 82 = .ok (.goto 4, 3) := by decide +kernel
theorem k_Model_isAsItMustBe_85 : decode Y_Model_isAsItMustBe.2.1 85 = .ok (.iconst 0, 1) := by decide +kernel
theorem k_Model_isAsItMustBe_86 : decode Y_Model_isAsItMustBe.2.1 86 = .ok (.ireturn, 1) := by decide +kernel
theorem k_Model_isAsItMustBe_87 : decode Y_Model_isAsItMustBe.2.1 87 = .ok (.aload_n 0, 1) := by decide +kernel
theorem k_Model_isAsItMustBe_88 : decode Y_Model_isAsItMustBe.2.1 88 = .ok (.getfield 32, 3) := by decide +kernel
theorem k_Model_isAsItMustBe_91 : decode Y_Model_isAsItMustBe.2.1 91 = .ok (.iconst 0, 1) := by decide +kernel
theorem k_Model_isAsItMustBe_92 : decode Y_Model_isAsItMustBe.2.1 92 = .ok (.iaload, 1) := by decide +kernel
theorem k_Model_isAsItMustBe_93 : decode Y_Model_isAsItMustBe.2.1 93 = .ok (.iconst 1, 1) := by decide +kernel
theorem k_Model_isAsItMustBe_94 : decode Y_Model_isAsItMustBe.2.1 94 = .ok (.if_icmp .lt 27, 3) := by decide +kernel
theorem k_Model_isAsItMustBe_97 : decode Y_Model_isAsItMustBe.2.1 97 = .ok (.aload_n 0, 1) := by decide +kernel
theorem k_Model_isAsItMustBe_98 : decode Y_Model_isAsItMustBe.2.1 98 = .ok (.getfield 32, 3) := by decide +kernel
theorem k_Model_isAsItMustBe_101 : decode Y_Model_isAsItMustBe.2.1 101 = .ok (.iconst 0, 1) := by decide +kernel
theorem k_Model_isAsItMustBe_102 : decode Y_Model_isAsItMustBe.2.1 102 = .ok (.iaload, 1) := by decide +kernel
theorem k_Model_isAsItMustBe_103 : decode Y_Model_isAsItMustBe.2.1 103 = .ok (.iconst 4, 1) := by decide +kernel
theorem k_Model_isAsItMustBe_104 : decode Y_Model_isAsItMustBe.2.1 104 = .ok (.if_icmp .gt 17, 3) := by decide +kernel
theorem k_Model_isAsItMustBe_107 : decode Y_Model_isAsItMustBe.2.1 107 = .ok (.aload_n 0, 1) := by decide +kernel
theorem k_Model_isAsItMustBe_108 : decode Y_Model_isAsItMustBe.2.1 108 = .ok (.getfield 32, 3) := by decide +kernel
theorem k_Model_isAsItMustBe_111 : decode Y_Model_isAsItMustBe.2.1 111 = .ok (.iconst 1, 1) := by decide +kernel
theorem k_Model_isAsItMustBe_112 : decode Y_Model_isAsItMustBe.2.1 112 = .ok (.iaload, 1) := by decide +kernel
theorem k_Model_isAsItMustBe_113 : decode Y_Model_isAsItMustBe.2.1 113 = .ok (.iconst 2, 1) := by decide +kernel
theorem k_Model_isAsItMustBe_114 : decode Y_Model_isAsItMustBe.2.1 114 = .ok (.if_icmp .gt 7, 3) := by decide +kernel
theorem k_Model_isAsItMustBe_117 : decode Y_Model_isAsItMustBe.2.1 117 = .ok (.iconst 1, 1) := by decide +kernel
theorem k_Model_isAsItMustBe_118 : decode Y_Model_isAsItMustBe.2.1 118 = .ok (.goto 4, 3) := by decide +kernel
theorem k_Model_isAsItMustBe_121 : decode Y_Model_isAsItMustBe.2.1 121 = .ok (.iconst 0, 1) := by decide +kernel
theorem k_Model_isAsItMustBe_122 : decode Y_Model_isAsItMustBe.2.1 122 = .ok (.ireturn, 1) := by decide +kernel
theorem k_Model_isAsItMustBe_123 : decode Y_Model_isAsItMustBe.2.1 123 = .ok (.aload_n 0, 1) := by decide +kernel
theorem k_Model_isAsItMustBe_124 : decode Y_Model_isAsItMustBe.2.1 124 = .ok (.getfield 32, 3) := by decide +kernel
theorem k_Model_isAsItMustBe_127 : decode Y_Model_isAsItMustBe.2.1 127 = .ok (.iconst 0, 1) := by decide +kernel
theorem k_Model_isAsItMustBe_128 : decode Y_Model_isAsItMustBe.2.1 128 = .ok (.iaload, 1) := by decide +kernel
theorem k_Model_isAsItMustBe_129 : decode Y_Model_isAsItMustBe.2.1 129 = .ok (.bipush 6, 2) := by decide +kernel
theorem k_Model_isAsItMustBe_131 : decode Y_Model_isAsItMustBe.2.1 131 = .ok (.if_icmp .gt 7, 3) := by decide +kernel
theorem k_Model_isAsItMustBe_134 : decode Y_Model_isAsItMustBe.2.1 134 = .ok (.iconst 1, 1) := by decide +kernel
theorem k_Model_isAsItMustBe_135 : decode Y_Model_isAsItMustBe.2.1 135 = .ok (.goto 4, 3) := by decide +kernel
theorem k_Model_isAsItMustBe_138 : decode Y_Model_isAsItMustBe.2.1 138 = .ok (.iconst 0, 1) := by decide +kernel
theorem k_Model_isAsItMustBe_139 : decode Y_Model_isAsItMustBe.2.1 139 = .ok (.ireturn, 1) := by decide +kernel
theorem k_Model_come_0 : decode Y_Model_come.2.1 0 = .ok (.aload_n 0, 1) := by decide +kernel
theorem k_Model_come_1 : decode Y_Model_come.2.1 1 = .ok (.getfield 67, 3) := by decide +kernel
theorem k_Model_come_4 : decode Y_Model_come.2.1 4 = .ok (.tableswitch 181 0 2 #[28, 81, 154], 28) := by decide +kernel
theorem k_Model_come_32 : decode Y_Model_come.2.1 32 = .ok (.aload_n 0, 1) := by decide +kernel
theorem k_Model_come_33 : decode Y_Model_come.2.1 33 = .ok (.getfield 13, 3) := by decide +kernel
theorem k_Model_come_36 : decode Y_Model_come.2.1 36 = .ok (.bipush 10, 2) := by decide +kernel
theorem k_Model_come_38 : decode Y_Model_come.2.1 38 = .ok (.aload_n 0, 1) := by decide +kernel
theorem k_Model_come_39 : decode Y_Model_come.2.1 39 = .ok (.getfield 13, 3) := by decide +kernel
theorem k_Model_come_42 : decode Y_Model_come.2.1 42 = .ok (.iconst 0, 1) := by decide +kernel
theorem k_Model_come_43 : decode Y_Model_come.2.1 43 = .ok (.iaload, 1) := by decide +kernel
theorem k_Model_come_44 : decode Y_Model_come.2.1 44 = .ok (.iadd, 1) := by decide +kernel
theorem k_Model_come_45 : decode Y_Model_come.2.1 45 = .ok (.aload_n 0, 1) := by decide +kernel
theorem k_Model_come_46 : decode Y_Model_come.2.1 46 = .ok (.getfield 32, 3) := by decide +kernel
theorem k_Model_come_49 : decode Y_Model_come.2.1 49 = .ok (.iconst 0, 1) := by decide +kernel
theorem k_Model_come_50 : decode Y_Model_come.2.1 50 = .ok (.iaload, 1) := by decide +kernel
theorem k_Model_come_51 : decode Y_Model_come.2.1 51 = .ok (.iastore, 1) := by decide +kernel
theorem k_Model_come_52 : decode Y_Model_come.2.1 52 = .ok (.aload_n 0, 1) := by decide +kernel
theorem k_Model_come_53 : decode Y_Model_come.2.1 53 = .ok (.getfield 13, 3) := by decide +kernel
theorem k_Model_come_56 : decode Y_Model_come.2.1 56 = .ok (.bipush 30, 2) := by decide +kernel
theorem k_Model_come_58 : decode Y_Model_come.2.1 58 = .ok (.aload_n 0, 1) := by decide +kernel
theorem k_Model_come_59 : decode Y_Model_come.2.1 59 = .ok (.getfield 13, 3) := by decide +kernel
theorem k_Model_come_62 : decode Y_Model_come.2.1 62 = .ok (.iconst 0, 1) := by decide +kernel
theorem k_Model_come_63 : decode Y_Model_come.2.1 63 = .ok (.iaload, 1) := by decide +kernel
theorem k_Model_come_64 : decode Y_Model_come.2.1 64 = .ok (.iadd, 1) := by decide +kernel
theorem k_Model_come_65 : decode Y_Model_come.2.1 65 = .ok (.aload_n 0, 1) := by decide +kernel
theorem k_Model_come_66 : decode Y_Model_come.2.1 66 = .ok (.getfield 32, 3) := by decide +kernel
theorem k_Model_come_69 : decode Y_Model_come.2.1 69 = .ok (.iconst 1, 1) := by decide +kernel
theorem k_Model_come_70 : decode Y_Model_come.2.1 70 = .ok (.iaload, 1) := by decide +kernel
theorem k_Model_come_71 : decode Y_Model_come.2.1 71 = .ok (.iastore, 1) := by decide +kernel
theorem k_Model_come_72 : decode Y_Model_come.2.1 72 = .ok (.aload_n 0, 1) := by decide +kernel
theorem k_Model_come_73 : decode Y_Model_come.2.1 73 = .ok (.getfield 13, 3) := by decide +kernel
theorem k_Model_come_76 : decode Y_Model_come.2.1 76 = .ok (.iconst 0, 1) := by decide +kernel
theorem k_Model_come_77 : decode Y_Model_come.2.1 77 = .ok (.dup2, 1) := by decide +kernel
theorem k_Model_come_78 : decode Y_Model_come.2.1 78 = .ok (.iaload, 1) := by decide +kernel
theorem k_Model_come_79 : decode Y_Model_come.2.1 79 = .ok (.iconst 1, 1) := by decide +kernel
theorem k_Model_come_80 : decode Y_Model_come.2.1 80 = .ok (.iadd, 1) := by decide +kernel
theorem k_Model_come_81 : decode Y_Model_come.2.1 81 = .ok (.iastore, 1) := by decide +kernel
theorem k_Model_come_82 : decode Y_Model_come.2.1 82 = .ok (.goto 120, 3) := by decide +kernel
theorem k_Model_come_85 : decode Y_Model_come.2.1 85 = .ok (.aload_n 0, 1) := by decide +kernel
theorem k_Model_come_86 : decode Y_Model_come.2.1 86 = .ok (.getfield 13, 3) := by decide +kernel
theorem k_Model_come_89 : decode Y_Model_come.2.1 89 = .ok (.bipush 50, 2) := by decide +kernel
theorem k_Model_come_91 : decode Y_Model_come.2.1 91 = .ok (.aload_n 0, 1) := by decide +kernel
theorem k_Model_come_92 : decode Y_Model_come.2.1 92 = .ok (.getfield 13, 3) := by decide +kernel
theorem k_Model_come_95 : decode Y_Model_come.2.1 95 = .ok (.iconst 1, 1) := by decide +kernel
theorem k_Model_come_96 : decode Y_Model_come.2.1 96 = .ok (.iaload, 1) := by decide +kernel
theorem k_Model_come_97 : decode Y_Model_come.2.1 97 = .ok (.iadd, 1) := by decide +kernel
theorem k_Model_come_98 : decode Y_Model_come.2.1 98 = .ok (.aload_n 0, 1) := by decide +kernel
theorem k_Model_come_99 : decode Y_Model_come.2.1 99 = .ok (.getfield 32, 3) := by decide +kernel
theorem k_Model_come_102 : decode Y_Model_come.2.1 102 = .ok (.iconst 0, 1) := by decide +kernel
theorem k_Model_come_103 : decode Y_Model_come.2.1 103 = .ok (.iaload, 1) := by decide +kernel
theorem k_Model_come_104 : decode Y_Model_come.2.1 104 = .ok (.iastore, 1) := by decide +kernel
theorem k_Model_come_105 : decode Y_Model_come.2.1 105 = .ok (.aload_n 0, 1) := by decide +kernel
theorem k_Model_come_106 : decode Y_Model_come.2.1 106 = .ok (.getfield 13, 3) := by decide +kernel
theorem k_Model_come_109 : decode Y_Model_come.2.1 109 = .ok (.bipush 60, 2) := by decide +kernel
theorem k_Model_come_111 : decode Y_Model_come.2.1 111 = .ok (.aload_n 0, 1) := by decide +kernel
theorem k_Model_come_112 : decode Y_Model_come.2.1 112 = .ok (.getfield 13, 3) := by decide +kernel
theorem k_Model_come_115 : decode Y_Model_come.2.1 115 = .ok (.iconst 1, 1) := by decide +kernel
theorem k_Model_come_116 : decode Y_Model_come.2.1 116 = .ok (.iaload, 1) := by decide +kernel
theorem k_Model_come_117 : decode Y_Model_come.2.1 117 = .ok (.iadd, 1) := by decide +kernel
theorem k_Model_come_118 : decode Y_Model_come.2.1 118 = .ok (.aload_n 0, 1) := by decide +kernel
theorem k_Model_come_119 : decode Y_Model_come.2.1 119 = .ok (.getfield 32, 3) := by decide +kernel
theorem k_Model_come_122 : decode Y_Model_come.2.1 122 = .ok (.iconst 1, 1) := by decide +kernel
theorem k_Model_come_123 : decode Y_Model_come.2.1 123 = .ok (.iaload, 1) := by decide +kernel
theorem k_Model_come_124 : decode Y_Model_come.2.1 124 = .ok (.iastore, 1) := by decide +kernel
theorem k_Model_come_125 : decode Y_Model_come.2.1 125 = .ok (.aload_n 0, 1) := by decide +kernel
theorem k_Model_come_126 : decode Y_Model_come.2.1 126 = .ok (.getfield 13, 3) := by decide +kernel
theorem k_Model_come_129 : decode Y_Model_come.2.1 129 = .ok (.bipush 70, 2) := by decide +kernel
theorem k_Model_come_131 : decode Y_Model_come.2.1 131 = .ok (.aload_n 0, 1) := by decide +kernel
theorem k_Model_come_132 : decode Y_Model_come.2.1 132 = .ok (.getfield 13, 3) := by decide +kernel
theorem k_Model_come_135 : decode Y_Model_come.2.1 135 = .ok (.iconst 1, 1) := by decide +kernel
theorem k_Model_come_136 : decode Y_Model_come.2.1 136 = .ok (.iaload, 1) := by decide +kernel
theorem k_Model_come_137 : decode Y_Model_come.2.1 137 = .ok (.iadd, 1) := by decide +kernel
theorem k_Model_come_138 : decode Y_Model_come.2.1 138 = .ok (.aload_n 0, 1) := by decide +kernel
theorem k_Model_come_139 : decode Y_Model_come.2.1 139 = .ok (.getfield 32, 3) := by decide +kernel
theorem k_Model_come_142 : decode Y_Model_come.2.1 142 = .ok (.iconst 2, 1) := by decide +kernel
theorem k_Model_come_143 : decode Y_Model_come.2.1 143 = .ok (.iaload, 1) := by decide +kernel
theorem k_Model_come_144 : decode Y_Model_come.2.1 144 = .ok (.iastore, 1) := by decide +kernel
theorem k_Model_come_145 : decode Y_Model_come.2.1 145 = .ok (.aload_n 0, 1) := by decide +kernel
theorem k_Model_come_146 : decode Y_Model_come.2.1 146 = .ok (.getfield 13, 3) := by decide +kernel
theorem k_Model_come_149 : decode Y_Model_come.2.1 149 = .ok (.iconst 1, 1) := by decide +kernel
theorem k_Model_come_150 : decode Y_Model_come.2.1 150 = .ok (.dup2, 1) := by decide +kernel
theorem k_Model_come_151 : decode Y_Model_come.2.1 151 = .ok (.iaload, 1) := by decide +kernel
theorem k_Model_come_152 : decode Y_Model_come.2.1 152 = .ok (.iconst 1, 1) := by decide +kernel
theorem k_Model_come_153 : decode Y_Model_come.2.1 153 = .ok (.iadd, 1) := by decide +kernel
theorem k_Model_come_154 : decode Y_Model_come.2.1 154 = .ok (.iastore, 1) := by decide +kernel
theorem k_Model_come_155 : decode Y_Model_come.2.1 155 = .ok (.goto 47, 3) := by decide +kernel
theorem k_Model_come_158 : decode Y_Model_come.2.1 158 = .ok (.aload_n 0, 1) := by decide +kernel
theorem k_Model_come_159 : decode Y_Model_come.2.1 159 = .ok (.getfield 13, 3) := by decide +kernel
theorem k_Model_come_162 : decode Y_Model_come.2.1 162 = .ok (.iconst 2, 1) := by decide +kernel
theorem k_Model_come_163 : decode Y_Model_come.2.1 163 = .ok (.aload_n 0, 1) := by decide +kernel
theorem k_Model_come_164 : decode Y_Model_come.2.1 164 = .ok (.getfield 32, 3) := by decide +kernel
theorem k_Model_come_167 : decode Y_Model_come.2.1 167 = .ok (.iconst 0, 1) := by decide +kernel
theorem k_Model_come_168 : decode Y_Model_come.2.1 168 = .ok (.iaload, 1) := by decide +kernel
theorem k_Model_come_169 : decode Y_Model_come.2.1 169 = .ok (.iastore, 1) := by decide +kernel
theorem k_Model_come_170 : decode Y_Model_come.2.1 170 = .ok (.aload_n 0, 1) := by decide +kernel
theorem k_Model_come_171 : decode Y_Model_come.2.1 171 = .ok (.getfield 13, 3) := by decide +kernel
theorem k_Model_come_174 : decode Y_Model_come.2.1 174 = .ok (.iconst 3, 1) := by decide +kernel
theorem k_Model_come_175 : decode Y_Model_come.2.1 175 = .ok (.aload_n 0, 1) := by decide +kernel
theorem k_Model_come_176 : decode Y_Model_come.2.1 176 = .ok (.getfield 32, 3) := by decide +kernel
theorem k_Model_come_179 : decode Y_Model_come.2.1 179 = .ok (.iconst 1, 1) := by decide +kernel
theorem k_Model_come_180 : decode Y_Model_come.2.1 180 = .ok (.iaload, 1) := by decide +kernel
theorem k_Model_come_181 : decode Y_Model_come.2.1 181 = .ok (.iastore, 1) := by decide +kernel
theorem k_Model_come_182 : decode Y_Model_come.2.1 182 = .ok (.goto 20, 3) := by decide +kernel
theorem k_Model_come_185 : decode Y_Model_come.2.1 185 = .ok (.aload_n 0, 1) := by decide +kernel
theorem k_Model_come_186 : decode Y_Model_come.2.1 186 = .ok (.getfield 13, 3) := by decide +kernel
theorem k_Model_come_189 : decode Y_Model_come.2.1 189 = .ok (.iconst 4, 1) := by decide +kernel
theorem k_Model_come_190 : decode Y_Model_come.2.1 190 = .ok (.dup2, 1) := by decide +kernel
theorem k_Model_come_191 : decode Y_Model_come.2.1 191 = .ok (.iaload, 1) := by decide +kernel
theorem k_Model_come_192 : decode Y_Model_come.2.1 192 = .ok (.iconst 1, 1) := by decide +kernel
theorem k_Model_come_193 : decode Y_Model_come.2.1 193 = .ok (.aload_n 0, 1) := by decide +kernel
theorem k_Model_come_194 : decode Y_Model_come.2.1 194 = .ok (.getfield 32, 3) := by decide +kernel
theorem k_Model_come_197 : decode Y_Model_come.2.1 197 = .ok (.iconst 0, 1) := by decide +kernel
theorem k_Model_come_198 : decode Y_Model_come.2.1 198 = .ok (.iaload, 1) := by decide +kernel
theorem k_Model_come_199 : decode Y_Model_come.2.1 199 = .ok (.ishl, 1) := by decide +kernel
theorem k_Model_come_200 : decode Y_Model_come.2.1 200 = .ok (.ixor, 1) := by decide +kernel
theorem k_Model_come_201 : decode Y_Model_come.2.1 201 = .ok (.iastore, 1) := by decide +kernel
theorem k_Model_come_202 : decode Y_Model_come.2.1 202 = .ok (.return_, 1) := by decide +kernel
theorem k_Model_read_0 : decode Y_Model_read.2.1 0 = .ok (.iconst 0, 1) := by decide +kernel
theorem k_Model_read_1 : decode Y_Model_read.2.1 1 = .ok (.istore_n 1, 1) := by decide +kernel
theorem k_Model_read_2 : decode Y_Model_read.2.1 2 = .ok (.aload_n 0, 1) := by decide +kernel
theorem k_Model_read_3 : decode Y_Model_read.2.1 3 = .ok (.iconst 0, 1) := by decide +kernel
theorem k_Model_read_4 : decode Y_Model_read.2.1 4 = .ok (.putfield 60, 3) := by decide +kernel
theorem k_Model_read_7 : decode Y_Model_read.2.1 7 = .ok (.aload_n 0, 1) := by decide +kernel
theorem k_Model_read_8 : decode Y_Model_read.2.1 8 = .ok (.iconst 1, 1) := by decide +kernel
theorem k_Model_read_9 : decode Y_Model_read.2.1 9 = .ok (.putfield 57, 3) := by decide +kernel
theorem k_Model_read_12 : decode Y_Model_read.2.1 12 = .ok (.aload_n 0, 1) := by decide +kernel
theorem k_Model_read_13 : decode Y_Model_read.2.1 13 = .ok (.invokevirtual 77, 3) := by decide +kernel
theorem k_Model_read_16 : decode Y_Model_read.2.1 16 = .ok (.iinc 1 1, 3) := by decide +kernel
theorem k_Model_read_19 : decode Y_Model_read.2.1 19 = .ok (.aload_n 0, 1) := by decide +kernel
theorem k_Model_read_20 : decode Y_Model_read.2.1 20 = .ok (.getfield 57, 3) := by decide +kernel
theorem k_Model_read_23 : decode Y_Model_read.2.1 23 = .ok (.ifCond .eq 14, 3) := by decide +kernel
theorem k_Model_read_26 : decode Y_Model_read.2.1 26 = .ok (.aload_n 0, 1) := by decide +kernel
theorem k_Model_read_27 : decode Y_Model_read.2.1 27 = .ok (.getfield 60, 3) := by decide +kernel
theorem k_Model_read_30 : decode Y_Model_read.2.1 30 = .ok (.aload_n 0, 1) := by decide +kernel
theorem k_Model_read_31 : decode Y_Model_read.2.1 31 = .ok (.getfield 53, 3) := by decide +kernel
theorem k_Model_read_34 : decode Y_Model_read.2.1 34 = .ok (.if_icmp .lt (-22), 3) := by decide +kernel
theorem k_Model_read_37 : decode Y_Model_read.2.1 37 = .ok (.aload_n 0, 1) := by decide +kernel
theorem k_Model_read_38 : decode Y_Model_read.2.1 38 = .ok (.getfield 57, 3) := by decide +kernel
theorem k_Model_read_41 : decode Y_Model_read.2.1 41 = .ok (.ifCond .ne 12, 3) := by decide +kernel
theorem k_Model_read_44 : decode Y_Model_read.2.1 44 = .ok (.sipush (-1000), 3) := by decide +kernel
theorem k_Model_read_47 : decode Y_Model_read.2.1 47 = .ok (.aload_n 0, 1) := by decide +kernel
theorem k_Model_read_48 : decode Y_Model_read.2.1 48 = .ok (.getfield 60, 3) := by decide +kernel
theorem k_Model_read_51 : decode Y_Model_read.2.1 51 = .ok (.isub, 1) := by decide +kernel
theorem k_Model_read_52 : decode Y_Model_read.2.1 52 = .ok (.ireturn, 1) := by decide +kernel
theorem k_Model_read_53 : decode Y_Model_read.2.1 53 = .ok (.aload_n 0, 1) := by decide +kernel
theorem k_Model_read_54 : decode Y_Model_read.2.1 54 = .ok (.iconst 0, 1) := by decide +kernel
theorem k_Model_read_55 : decode Y_Model_read.2.1 55 = .ok (.putfield 60, 3) := by decide +kernel
theorem k_Model_read_58 : decode Y_Model_read.2.1 58 = .ok (.aload_n 0, 1) := by decide +kernel
theorem k_Model_read_59 : decode Y_Model_read.2.1 59 = .ok (.getfield 13, 3) := by decide +kernel
theorem k_Model_read_62 : decode Y_Model_read.2.1 62 = .ok (.iconst 0, 1) := by decide +kernel
theorem k_Model_read_63 : decode Y_Model_read.2.1 63 = .ok (.iaload, 1) := by decide +kernel
theorem k_Model_read_64 : decode Y_Model_read.2.1 64 = .ok (.istore_n 2, 1) := by decide +kernel
theorem k_Model_read_65 : decode Y_Model_read.2.1 65 = .ok (.aload_n 0, 1) := by decide +kernel
theorem k_Model_read_66 : decode Y_Model_read.2.1 66 = .ok (.getfield 13, 3) := by decide +kernel
theorem k_Model_read_69 : decode Y_Model_read.2.1 69 = .ok (.iconst 1, 1) := by decide +kernel
theorem k_Model_read_70 : decode Y_Model_read.2.1 70 = .ok (.iaload, 1) := by decide +kernel
theorem k_Model_read_71 : decode Y_Model_read.2.1 71 = .ok (.istore_n 3, 1) := by decide +kernel
theorem k_Model_read_72 : decode Y_Model_read.2.1 72 = .ok (.aload_n 0, 1) := by decide +kernel
theorem k_Model_read_73 : decode Y_Model_read.2.1 73 = .ok (.getfield 60, 3) := by decide +kernel
theorem k_Model_read_76 : decode Y_Model_read.2.1 76 = .ok (.aload_n 0, 1) := by decide +kernel
theorem k_Model_read_77 : decode Y_Model_read.2.1 77 = .ok (.getfield 53, 3) := by decide +kernel
theorem k_Model_read_80 : decode Y_Model_read.2.1 80 = .ok (.if_icmp .ge 63, 3) := by decide +kernel
theorem k_Model_read_83 : decode Y_Model_read.2.1 83 = .ok (.aload_n 0, 1) := by decide +kernel
theorem k_Model_read_84 : decode Y_Model_read.2.1 84 = .ok (.getfield 60, 3) := by decide +kernel
theorem k_Model_read_87 : decode Y_Model_read.2.1 87 = .ok (.istore 4, 2) := by decide +kernel
theorem k_Model_read_89 : decode Y_Model_read.2.1 89 = .ok (.aload_n 0, 1) := by decide +kernel
theorem k_Model_read_90 : decode Y_Model_read.2.1 90 = .ok (.invokevirtual 77, 3) := by decide +kernel
theorem k_Model_read_93 : decode Y_Model_read.2.1 93 = .ok (.aload_n 0, 1) := by decide +kernel
theorem k_Model_read_94 : decode Y_Model_read.2.1 94 = .ok (.iload_n 2, 1) := by decide +kernel
theorem k_Model_read_95 : decode Y_Model_read.2.1 95 = .ok (.iload_n 3, 1) := by decide +kernel
theorem k_Model_read_96 : decode Y_Model_read.2.1 96 = .ok (.invokevirtual 80, 3) := by decide +kernel
theorem k_Model_read_99 : decode Y_Model_read.2.1 99 = .ok (.ifCond .ne 10, 3) := by decide +kernel
theorem k_Model_read_102 : decode Y_Model_read.2.1 102 = .ok (.sipush (-2000), 3) := by decide +kernel
theorem k_Model_read_105 : decode Y_Model_read.2.1 105 = .ok (.iload 4, 2) := by decide +kernel
theorem k_Model_read_107 : decode Y_Model_read.2.1 107 = .ok (.isub, 1) := by decide +kernel
theorem k_Model_read_108 : decode Y_Model_read.2.1 108 = .ok (.ireturn, 1) := by decide +kernel
theorem k_Model_read_109 : decode Y_Model_read.2.1 109 = .ok (.iload_n 2, 1) := by decide +kernel
theorem k_Model_read_110 : decode Y_Model_read.2.1 110 = .ok (.aload_n 0, 1) := by decide +kernel
theorem k_Model_read_111 : decode Y_Model_read.2.1 111 = .ok (.getfield 67, 3) := by decide +kernel
theorem k_Model_read_114 : decode Y_Model_read.2.1 114 = .ok (.ifCond .ne 7, 3) := by decide +kernel
theorem k_Model_read_117 : decode Y_Model_read.2.1 117 = .ok (.iconst 1, 1) := by decide +kernel
theorem k_Model_read_118 : decode Y_Model_read.2.1 118 = .ok (.goto 4, 3) := by decide +kernel
theorem k_Model_read_121 : decode Y_Model_read.2.1 121 = .ok (.iconst 0, 1) := by decide +kernel
theorem k_Model_read_122 : decode Y_Model_read.2.1 122 = .ok (.iadd, 1) := by decide +kernel
theorem k_Model_read_123 : decode Y_Model_read.2.1 123 = .ok (.istore_n 2, 1) := by decide +kernel
theorem k_Model_read_124 : decode Y_Model_read.2.1 124 = .ok (.iload_n 3, 1) := by decide +kernel
theorem k_Model_read_125 : decode Y_Model_read.2.1 125 = .ok (.aload_n 0, 1) := by decide +kernel
theorem k_Model_read_126 : decode Y_Model_read.2.1 126 = .ok (.getfield 67, 3) := by decide +kernel
theorem k_Model_read_129 : decode Y_Model_read.2.1 129 = .ok (.iconst 1, 1) := by decide +kernel
theorem k_Model_read_130 : decode Y_Model_read.2.1 130 = .ok (.if_icmp .ne 7, 3) := by decide +kernel
theorem k_Model_read_133 : decode Y_Model_read.2.1 133 = .ok (.iconst 1, 1) := by decide +kernel
theorem k_Model_read_134 : decode Y_Model_read.2.1 134 = .ok (.goto 4, 3) := by decide +kernel
theorem k_Model_read_137 : decode Y_Model_read.2.1 137 = .ok (.iconst 0, 1) := by decide +kernel
theorem k_Model_read_138 : decode Y_Model_read.2.1 138 = .ok (.iadd, 1) := by decide +kernel
theorem k_Model_read_139 : decode Y_Model_read.2.1 139 = .ok (.istore_n 3, 1) := by decide +kernel
theorem k_Model_read_140 : decode Y_Model_read.2.1 140 = .ok (.goto (-68), 3) := by decide +kernel
theorem k_Model_read_143 : decode Y_Model_read.2.1 143 = .ok (.aload_n 0, 1) := by decide +kernel
theorem k_Model_read_144 : decode Y_Model_read.2.1 144 = .ok (.iconst 0, 1) := by decide +kernel
theorem k_Model_read_145 : decode Y_Model_read.2.1 145 = .ok (.putfield 60, 3) := by decide +kernel
theorem k_Model_read_148 : decode Y_Model_read.2.1 148 = .ok (.aload_n 0, 1) := by decide +kernel
theorem k_Model_read_149 : decode Y_Model_read.2.1 149 = .ok (.getfield 60, 3) := by decide +kernel
theorem k_Model_read_152 : decode Y_Model_read.2.1 152 = .ok (.aload_n 0, 1) := by decide +kernel
theorem k_Model_read_153 : decode Y_Model_read.2.1 153 = .ok (.getfield 53, 3) := by decide +kernel
theorem k_Model_read_156 : decode Y_Model_read.2.1 156 = .ok (.if_icmp .ge 14, 3) := by decide +kernel
theorem k_Model_read_159 : decode Y_Model_read.2.1 159 = .ok (.aload_n 0, 1) := by decide +kernel
theorem k_Model_read_160 : decode Y_Model_read.2.1 160 = .ok (.invokevirtual 77, 3) := by decide +kernel
theorem k_Model_read_163 : decode Y_Model_read.2.1 163 = .ok (.aload_n 0, 1) := by decide +kernel
theorem k_Model_read_164 : decode Y_Model_read.2.1 164 = .ok (.invokevirtual 84, 3) := by decide +kernel
theorem k_Model_read_167 : decode Y_Model_read.2.1 167 = .ok (.goto (-19), 3) := by decide +kernel
theorem k_Model_read_170 : decode Y_Model_read.2.1 170 = .ok (.iload_n 1, 1) := by decide +kernel
theorem k_Model_read_171 : decode Y_Model_read.2.1 171 = .ok (.ireturn, 1) := by decide +kernel
theorem k_Model_canon_0 : decode Y_Model_canon.2.1 0 = .ok (.aload_n 0, 1) := by decide +kernel
theorem k_Model_canon_1 : decode Y_Model_canon.2.1 1 = .ok (.invokevirtual 87, 3) := by decide +kernel
theorem k_Model_canon_4 : decode Y_Model_canon.2.1 4 = .ok (.istore_n 1, 1) := by decide +kernel
theorem k_Model_canon_5 : decode Y_Model_canon.2.1 5 = .ok (.aload_n 0, 1) := by decide +kernel
theorem k_Model_canon_6 : decode Y_Model_canon.2.1 6 = .ok (.iconst 0, 1) := by decide +kernel
theorem k_Model_canon_7 : decode Y_Model_canon.2.1 7 = .ok (.putfield 53, 3) := by decide +kernel
theorem k_Model_canon_10 : decode Y_Model_canon.2.1 10 = .ok (.iload_n 1, 1) := by decide +kernel
theorem k_Model_canon_11 : decode Y_Model_canon.2.1 11 = .ok (.ireturn, 1) := by decide +kernel
theorem k_Model_firstBeat_0 : decode Y_Model_firstBeat.2.1 0 = .ok (.iconst 0, 1) := by decide +kernel
theorem k_Model_firstBeat_1 : decode Y_Model_firstBeat.2.1 1 = .ok (.istore_n 2, 1) := by decide +kernel
theorem k_Model_firstBeat_2 : decode Y_Model_firstBeat.2.1 2 = .ok (.iconst 0, 1) := by decide +kernel
theorem k_Model_firstBeat_3 : decode Y_Model_firstBeat.2.1 3 = .ok (.istore_n 3, 1) := by decide +kernel
theorem k_Model_firstBeat_4 : decode Y_Model_firstBeat.2.1 4 = .ok (.iload_n 3, 1) := by decide +kernel
theorem k_Model_firstBeat_5 : decode Y_Model_firstBeat.2.1 5 = .ok (.iload_n 1, 1) := by decide +kernel
theorem k_Model_firstBeat_6 : decode Y_Model_firstBeat.2.1 6 = .ok (.if_icmp .ge 21, 3) := by decide +kernel
theorem k_Model_firstBeat_9 : decode Y_Model_firstBeat.2.1 9 = .ok (.iload_n 2, 1) := by decide +kernel
theorem k_Model_firstBeat_10 : decode Y_Model_firstBeat.2.1 10 = .ok (.aload_n 0, 1) := by decide +kernel
theorem k_Model_firstBeat_11 : decode Y_Model_firstBeat.2.1 11 = .ok (.getfield 13, 3) := by decide +kernel
end
section
/-! what each instruction decodes to (written by wip/whole/tools/gen_dec.py) -/
theorem k_Model_firstBeat_14 : decode Y_Model_firstBeat.2.1 14 = .ok (.bipush 30, 2) := by decide +kernel
theorem k_Model_firstBeat_16 : decode Y_Model_firstBeat.2.1 16 = .ok (.iload_n 3, 1) := by decide +kernel
theorem k_Model_firstBeat_17 : decode Y_Model_firstBeat.2.1 17 = .ok (.iadd, 1) := by decide +kernel
theorem k_Model_firstBeat_18 : decode Y_Model_firstBeat.2.1 18 = .ok (.iaload, 1) := by decide +kernel
theorem k_Model_firstBeat_19 : decode Y_Model_firstBeat.2.1 19 = .ok (.iadd, 1) := by decide +kernel
theorem k_Model_firstBeat_20 : decode Y_Model_firstBeat.2.1 20 = .ok (.istore_n 2, 1) := by decide +kernel
theorem k_Model_firstBeat_21 : decode Y_Model_firstBeat.2.1 21 = .ok (.iinc 3 1, 3) := by decide +kernel
theorem k_Model_firstBeat_24 : decode Y_Model_firstBeat.2.1 24 = .ok (.goto (-20), 3) := by decide +kernel
theorem k_Model_firstBeat_27 : decode Y_Model_firstBeat.2.1 27 = .ok (.iload_n 2, 1) := by decide +kernel
theorem k_Model_firstBeat_28 : decode Y_Model_firstBeat.2.1 28 = .ok (.ireturn, 1) := by decide +kernel
theorem k_Model_beats_0 : decode Y_Model_beats.2.1 0 = .ok (.aload_n 0, 1) := by decide +kernel
theorem k_Model_beats_1 : decode Y_Model_beats.2.1 1 = .ok (.aload_n 0, 1) := by decide +kernel
theorem k_Model_beats_2 : decode Y_Model_beats.2.1 2 = .ok (.getfield 13, 3) := by decide +kernel
theorem k_Model_beats_5 : decode Y_Model_beats.2.1 5 = .ok (.iconst 0, 1) := by decide +kernel
theorem k_Model_beats_6 : decode Y_Model_beats.2.1 6 = .ok (.iaload, 1) := by decide +kernel
theorem k_Model_beats_7 : decode Y_Model_beats.2.1 7 = .ok (.invokevirtual 91, 3) := by decide +kernel
theorem k_Model_beats_10 : decode Y_Model_beats.2.1 10 = .ok (.ireturn, 1) := by decide +kernel
theorem k_Model_plain_0 : decode Y_Model_plain.2.1 0 = .ok (.iconst 0, 1) := by decide +kernel
theorem k_Model_plain_1 : decode Y_Model_plain.2.1 1 = .ok (.istore_n 2, 1) := by decide +kernel
theorem k_Model_plain_2 : decode Y_Model_plain.2.1 2 = .ok (.aload_n 0, 1) := by decide +kernel
theorem k_Model_plain_3 : decode Y_Model_plain.2.1 3 = .ok (.getfield 13, 3) := by decide +kernel
theorem k_Model_plain_6 : decode Y_Model_plain.2.1 6 = .ok (.bipush 30, 2) := by decide +kernel
theorem k_Model_plain_8 : decode Y_Model_plain.2.1 8 = .ok (.iaload, 1) := by decide +kernel
theorem k_Model_plain_9 : decode Y_Model_plain.2.1 9 = .ok (.istore_n 3, 1) := by decide +kernel
theorem k_Model_plain_10 : decode Y_Model_plain.2.1 10 = .ok (.iload_n 1, 1) := by decide +kernel
theorem k_Model_plain_11 : decode Y_Model_plain.2.1 11 = .ok (.iload_n 3, 1) := by decide +kernel
theorem k_Model_plain_12 : decode Y_Model_plain.2.1 12 = .ok (.if_icmp .lt 21, 3) := by decide +kernel
theorem k_Model_plain_15 : decode Y_Model_plain.2.1 15 = .ok (.iinc 2 1, 3) := by decide +kernel
theorem k_Model_plain_18 : decode Y_Model_plain.2.1 18 = .ok (.iload_n 3, 1) := by decide +kernel
theorem k_Model_plain_19 : decode Y_Model_plain.2.1 19 = .ok (.aload_n 0, 1) := by decide +kernel
theorem k_Model_plain_20 : decode Y_Model_plain.2.1 20 = .ok (.getfield 13, 3) := by decide +kernel
theorem k_Model_plain_23 : decode Y_Model_plain.2.1 23 = .ok (.bipush 30, 2) := by decide +kernel
theorem k_Model_plain_25 : decode Y_Model_plain.2.1 25 = .ok (.iload_n 2, 1) := by decide +kernel
theorem k_Model_plain_26 : decode Y_Model_plain.2.1 26 = .ok (.iadd, 1) := by decide +kernel
theorem k_Model_plain_27 : decode Y_Model_plain.2.1 27 = .ok (.iaload, 1) := by decide +kernel
theorem k_Model_plain_28 : decode Y_Model_plain.2.1 28 = .ok (.iadd, 1) := by decide +kernel
theorem k_Model_plain_29 : decode Y_Model_plain.2.1 29 = .ok (.istore_n 3, 1) := by decide +kernel
theorem k_Model_plain_30 : decode Y_Model_plain.2.1 30 = .ok (.goto (-20), 3) := by decide +kernel
theorem k_Model_plain_33 : decode Y_Model_plain.2.1 33 = .ok (.aload_n 0, 1) := by decide +kernel
theorem k_Model_plain_34 : decode Y_Model_plain.2.1 34 = .ok (.getfield 13, 3) := by decide +kernel
theorem k_Model_plain_37 : decode Y_Model_plain.2.1 37 = .ok (.bipush 10, 2) := by decide +kernel
theorem k_Model_plain_39 : decode Y_Model_plain.2.1 39 = .ok (.iload_n 2, 1) := by decide +kernel
theorem k_Model_plain_40 : decode Y_Model_plain.2.1 40 = .ok (.iadd, 1) := by decide +kernel
theorem k_Model_plain_41 : decode Y_Model_plain.2.1 41 = .ok (.iaload, 1) := by decide +kernel
theorem k_Model_plain_42 : decode Y_Model_plain.2.1 42 = .ok (.ireturn, 1) := by decide +kernel
theorem k_Model_roundOf_0 : decode Y_Model_roundOf.2.1 0 = .ok (.iload_n 1, 1) := by decide +kernel
theorem k_Model_roundOf_1 : decode Y_Model_roundOf.2.1 1 = .ok (.iconst 3, 1) := by decide +kernel
theorem k_Model_roundOf_2 : decode Y_Model_roundOf.2.1 2 = .ok (.if_icmp .ne 12, 3) := by decide +kernel
theorem k_Model_roundOf_5 : decode Y_Model_roundOf.2.1 5 = .ok (.iconst 2, 1) := by decide +kernel
theorem k_Model_roundOf_6 : decode Y_Model_roundOf.2.1 6 = .ok (.aload_n 0, 1) := by decide +kernel
theorem k_Model_roundOf_7 : decode Y_Model_roundOf.2.1 7 = .ok (.invokevirtual 94, 3) := by decide +kernel
theorem k_Model_roundOf_10 : decode Y_Model_roundOf.2.1 10 = .ok (.imul, 1) := by decide +kernel
theorem k_Model_roundOf_11 : decode Y_Model_roundOf.2.1 11 = .ok (.goto 7, 3) := by decide +kernel
theorem k_Model_roundOf_14 : decode Y_Model_roundOf.2.1 14 = .ok (.aload_n 0, 1) := by decide +kernel
theorem k_Model_roundOf_15 : decode Y_Model_roundOf.2.1 15 = .ok (.invokevirtual 94, 3) := by decide +kernel
theorem k_Model_roundOf_18 : decode Y_Model_roundOf.2.1 18 = .ok (.ireturn, 1) := by decide +kernel
theorem k_Model_said_0 : decode Y_Model_said.2.1 0 = .ok (.iload_n 1, 1) := by decide +kernel
theorem k_Model_said_1 : decode Y_Model_said.2.1 1 = .ok (.iconst 1, 1) := by decide +kernel
theorem k_Model_said_2 : decode Y_Model_said.2.1 2 = .ok (.if_icmp .eq 8, 3) := by decide +kernel
theorem k_Model_said_5 : decode Y_Model_said.2.1 5 = .ok (.iload_n 1, 1) := by decide +kernel
theorem k_Model_said_6 : decode Y_Model_said.2.1 6 = .ok (.iconst 5, 1) := by decide +kernel
theorem k_Model_said_7 : decode Y_Model_said.2.1 7 = .ok (.if_icmp .ne 14, 3) := by decide +kernel
theorem k_Model_said_10 : decode Y_Model_said.2.1 10 = .ok (.aload_n 0, 1) := by decide +kernel
theorem k_Model_said_11 : decode Y_Model_said.2.1 11 = .ok (.invokevirtual 94, 3) := by decide +kernel
theorem k_Model_said_14 : decode Y_Model_said.2.1 14 = .ok (.iconst 1, 1) := by decide +kernel
theorem k_Model_said_15 : decode Y_Model_said.2.1 15 = .ok (.isub, 1) := by decide +kernel
theorem k_Model_said_16 : decode Y_Model_said.2.1 16 = .ok (.iload_n 2, 1) := by decide +kernel
theorem k_Model_said_17 : decode Y_Model_said.2.1 17 = .ok (.isub, 1) := by decide +kernel
theorem k_Model_said_18 : decode Y_Model_said.2.1 18 = .ok (.goto 15, 3) := by decide +kernel
theorem k_Model_said_21 : decode Y_Model_said.2.1 21 = .ok (.iload_n 1, 1) := by decide +kernel
theorem k_Model_said_22 : decode Y_Model_said.2.1 22 = .ok (.iconst 3, 1) := by decide +kernel
theorem k_Model_said_23 : decode Y_Model_said.2.1 23 = .ok (.if_icmp .ne 9, 3) := by decide +kernel
theorem k_Model_said_26 : decode Y_Model_said.2.1 26 = .ok (.iload_n 2, 1) := by decide +kernel
theorem k_Model_said_27 : decode Y_Model_said.2.1 27 = .ok (.iconst 2, 1) := by decide +kernel
theorem k_Model_said_28 : decode Y_Model_said.2.1 28 = .ok (.idiv, 1) := by decide +kernel
theorem k_Model_said_29 : decode Y_Model_said.2.1 29 = .ok (.goto 4, 3) := by decide +kernel
theorem k_Model_said_32 : decode Y_Model_said.2.1 32 = .ok (.iload_n 2, 1) := by decide +kernel
theorem k_Model_said_33 : decode Y_Model_said.2.1 33 = .ok (.istore_n 3, 1) := by decide +kernel
theorem k_Model_said_34 : decode Y_Model_said.2.1 34 = .ok (.aload_n 0, 1) := by decide +kernel
theorem k_Model_said_35 : decode Y_Model_said.2.1 35 = .ok (.iload_n 3, 1) := by decide +kernel
theorem k_Model_said_36 : decode Y_Model_said.2.1 36 = .ok (.invokevirtual 97, 3) := by decide +kernel
theorem k_Model_said_39 : decode Y_Model_said.2.1 39 = .ok (.istore 4, 2) := by decide +kernel
theorem k_Model_said_41 : decode Y_Model_said.2.1 41 = .ok (.iload_n 1, 1) := by decide +kernel
theorem k_Model_said_42 : decode Y_Model_said.2.1 42 = .ok (.iconst 2, 1) := by decide +kernel
theorem k_Model_said_43 : decode Y_Model_said.2.1 43 = .ok (.if_icmp .eq 8, 3) := by decide +kernel
theorem k_Model_said_46 : decode Y_Model_said.2.1 46 = .ok (.iload_n 1, 1) := by decide +kernel
theorem k_Model_said_47 : decode Y_Model_said.2.1 47 = .ok (.iconst 5, 1) := by decide +kernel
theorem k_Model_said_48 : decode Y_Model_said.2.1 48 = .ok (.if_icmp .ne 18, 3) := by decide +kernel
theorem k_Model_said_51 : decode Y_Model_said.2.1 51 = .ok (.iconst 2, 1) := by decide +kernel
theorem k_Model_said_52 : decode Y_Model_said.2.1 52 = .ok (.aload_n 0, 1) := by decide +kernel
theorem k_Model_said_53 : decode Y_Model_said.2.1 53 = .ok (.getfield 13, 3) := by decide +kernel
theorem k_Model_said_56 : decode Y_Model_said.2.1 56 = .ok (.bipush 10, 2) := by decide +kernel
theorem k_Model_said_58 : decode Y_Model_said.2.1 58 = .ok (.iaload, 1) := by decide +kernel
theorem k_Model_said_59 : decode Y_Model_said.2.1 59 = .ok (.imul, 1) := by decide +kernel
theorem k_Model_said_60 : decode Y_Model_said.2.1 60 = .ok (.iload 4, 2) := by decide +kernel
theorem k_Model_said_62 : decode Y_Model_said.2.1 62 = .ok (.isub, 1) := by decide +kernel
theorem k_Model_said_63 : decode Y_Model_said.2.1 63 = .ok (.goto 17, 3) := by decide +kernel
theorem k_Model_said_66 : decode Y_Model_said.2.1 66 = .ok (.iload_n 1, 1) := by decide +kernel
theorem k_Model_said_67 : decode Y_Model_said.2.1 67 = .ok (.iconst 4, 1) := by decide +kernel
theorem k_Model_said_68 : decode Y_Model_said.2.1 68 = .ok (.if_icmp .ne 10, 3) := by decide +kernel
theorem k_Model_said_71 : decode Y_Model_said.2.1 71 = .ok (.iload 4, 2) := by decide +kernel
theorem k_Model_said_73 : decode Y_Model_said.2.1 73 = .ok (.iconst 4, 1) := by decide +kernel
theorem k_Model_said_74 : decode Y_Model_said.2.1 74 = .ok (.iadd, 1) := by decide +kernel
theorem k_Model_said_75 : decode Y_Model_said.2.1 75 = .ok (.goto 5, 3) := by decide +kernel
theorem k_Model_said_78 : decode Y_Model_said.2.1 78 = .ok (.iload 4, 2) := by decide +kernel
theorem k_Model_said_80 : decode Y_Model_said.2.1 80 = .ok (.ireturn, 1) := by decide +kernel
theorem k_Model_soundOf_0 : decode Y_Model_soundOf.2.1 0 = .ok (.aload_n 0, 1) := by decide +kernel
theorem k_Model_soundOf_1 : decode Y_Model_soundOf.2.1 1 = .ok (.iload_n 1, 1) := by decide +kernel
theorem k_Model_soundOf_2 : decode Y_Model_soundOf.2.1 2 = .ok (.invokevirtual 100, 3) := by decide +kernel
theorem k_Model_soundOf_5 : decode Y_Model_soundOf.2.1 5 = .ok (.istore 5, 2) := by decide +kernel
theorem k_Model_soundOf_7 : decode Y_Model_soundOf.2.1 7 = .ok (.iload 5, 2) := by decide +kernel
theorem k_Model_soundOf_9 : decode Y_Model_soundOf.2.1 9 = .ok (.ifCond .eq 25, 3) := by decide +kernel
theorem k_Model_soundOf_12 : decode Y_Model_soundOf.2.1 12 = .ok (.iload 4, 2) := by decide +kernel
theorem k_Model_soundOf_14 : decode Y_Model_soundOf.2.1 14 = .ok (.iload_n 2, 1) := by decide +kernel
theorem k_Model_soundOf_15 : decode Y_Model_soundOf.2.1 15 = .ok (.if_icmp .lt 19, 3) := by decide +kernel
theorem k_Model_soundOf_18 : decode Y_Model_soundOf.2.1 18 = .ok (.iload 4, 2) := by decide +kernel
theorem k_Model_soundOf_20 : decode Y_Model_soundOf.2.1 20 = .ok (.iload_n 2, 1) := by decide +kernel
theorem k_Model_soundOf_21 : decode Y_Model_soundOf.2.1 21 = .ok (.aload_n 0, 1) := by decide +kernel
theorem k_Model_soundOf_22 : decode Y_Model_soundOf.2.1 22 = .ok (.getfield 13, 3) := by decide +kernel
theorem k_Model_soundOf_25 : decode Y_Model_soundOf.2.1 25 = .ok (.iconst 2, 1) := by decide +kernel
theorem k_Model_soundOf_26 : decode Y_Model_soundOf.2.1 26 = .ok (.iaload, 1) := by decide +kernel
theorem k_Model_soundOf_27 : decode Y_Model_soundOf.2.1 27 = .ok (.iload 5, 2) := by decide +kernel
theorem k_Model_soundOf_29 : decode Y_Model_soundOf.2.1 29 = .ok (.imul, 1) := by decide +kernel
theorem k_Model_soundOf_30 : decode Y_Model_soundOf.2.1 30 = .ok (.iadd, 1) := by decide +kernel
theorem k_Model_soundOf_31 : decode Y_Model_soundOf.2.1 31 = .ok (.if_icmp .lt 7, 3) := by decide +kernel
theorem k_Model_soundOf_34 : decode Y_Model_soundOf.2.1 34 = .ok (.sipush 999, 3) := by decide +kernel
theorem k_Model_soundOf_37 : decode Y_Model_soundOf.2.1 37 = .ok (.ireturn, 1) := by decide +kernel
theorem k_Model_soundOf_38 : decode Y_Model_soundOf.2.1 38 = .ok (.aload_n 0, 1) := by decide +kernel
theorem k_Model_soundOf_39 : decode Y_Model_soundOf.2.1 39 = .ok (.iload_n 1, 1) := by decide +kernel
theorem k_Model_soundOf_40 : decode Y_Model_soundOf.2.1 40 = .ok (.iload 4, 2) := by decide +kernel
theorem k_Model_soundOf_42 : decode Y_Model_soundOf.2.1 42 = .ok (.iload_n 2, 1) := by decide +kernel
theorem k_Model_soundOf_43 : decode Y_Model_soundOf.2.1 43 = .ok (.isub, 1) := by decide +kernel
theorem k_Model_soundOf_44 : decode Y_Model_soundOf.2.1 44 = .ok (.iload 5, 2) := by decide +kernel
theorem k_Model_soundOf_46 : decode Y_Model_soundOf.2.1 46 = .ok (.irem, 1) := by decide +kernel
theorem k_Model_soundOf_47 : decode Y_Model_soundOf.2.1 47 = .ok (.invokevirtual 103, 3) := by decide +kernel
theorem k_Model_soundOf_50 : decode Y_Model_soundOf.2.1 50 = .ok (.iload_n 3, 1) := by decide +kernel
theorem k_Model_soundOf_51 : decode Y_Model_soundOf.2.1 51 = .ok (.iadd, 1) := by decide +kernel
theorem k_Model_soundOf_52 : decode Y_Model_soundOf.2.1 52 = .ok (.aload_n 0, 1) := by decide +kernel
theorem k_Model_soundOf_53 : decode Y_Model_soundOf.2.1 53 = .ok (.getfield 13, 3) := by decide +kernel
theorem k_Model_soundOf_56 : decode Y_Model_soundOf.2.1 56 = .ok (.iconst 3, 1) := by decide +kernel
theorem k_Model_soundOf_57 : decode Y_Model_soundOf.2.1 57 = .ok (.iaload, 1) := by decide +kernel
theorem k_Model_soundOf_58 : decode Y_Model_soundOf.2.1 58 = .ok (.iload 4, 2) := by decide +kernel
theorem k_Model_soundOf_60 : decode Y_Model_soundOf.2.1 60 = .ok (.iload_n 2, 1) := by decide +kernel
theorem k_Model_soundOf_61 : decode Y_Model_soundOf.2.1 61 = .ok (.isub, 1) := by decide +kernel
theorem k_Model_soundOf_62 : decode Y_Model_soundOf.2.1 62 = .ok (.iload 5, 2) := by decide +kernel
theorem k_Model_soundOf_64 : decode Y_Model_soundOf.2.1 64 = .ok (.idiv, 1) := by decide +kernel
theorem k_Model_soundOf_65 : decode Y_Model_soundOf.2.1 65 = .ok (.imul, 1) := by decide +kernel
theorem k_Model_soundOf_66 : decode Y_Model_soundOf.2.1 66 = .ok (.iadd, 1) := by decide +kernel
theorem k_Model_soundOf_67 : decode Y_Model_soundOf.2.1 67 = .ok (.ireturn, 1) := by decide +kernel
theorem k_Model_soundAt_0 : decode Y_Model_soundAt.2.1 0 = .ok (.aload_n 0, 1) := by decide +kernel
theorem k_Model_soundAt_1 : decode Y_Model_soundAt.2.1 1 = .ok (.aload_n 0, 1) := by decide +kernel
theorem k_Model_soundAt_2 : decode Y_Model_soundAt.2.1 2 = .ok (.getfield 13, 3) := by decide +kernel
theorem k_Model_soundAt_5 : decode Y_Model_soundAt.2.1 5 = .ok (.bipush 50, 2) := by decide +kernel
theorem k_Model_soundAt_7 : decode Y_Model_soundAt.2.1 7 = .ok (.iload_n 1, 1) := by decide +kernel
theorem k_Model_soundAt_8 : decode Y_Model_soundAt.2.1 8 = .ok (.iadd, 1) := by decide +kernel
theorem k_Model_soundAt_9 : decode Y_Model_soundAt.2.1 9 = .ok (.iaload, 1) := by decide +kernel
theorem k_Model_soundAt_10 : decode Y_Model_soundAt.2.1 10 = .ok (.aload_n 0, 1) := by decide +kernel
theorem k_Model_soundAt_11 : decode Y_Model_soundAt.2.1 11 = .ok (.getfield 13, 3) := by decide +kernel
theorem k_Model_soundAt_14 : decode Y_Model_soundAt.2.1 14 = .ok (.bipush 60, 2) := by decide +kernel
theorem k_Model_soundAt_16 : decode Y_Model_soundAt.2.1 16 = .ok (.iload_n 1, 1) := by decide +kernel
theorem k_Model_soundAt_17 : decode Y_Model_soundAt.2.1 17 = .ok (.iadd, 1) := by decide +kernel
theorem k_Model_soundAt_18 : decode Y_Model_soundAt.2.1 18 = .ok (.iaload, 1) := by decide +kernel
theorem k_Model_soundAt_19 : decode Y_Model_soundAt.2.1 19 = .ok (.aload_n 0, 1) := by decide +kernel
theorem k_Model_soundAt_20 : decode Y_Model_soundAt.2.1 20 = .ok (.getfield 13, 3) := by decide +kernel
theorem k_Model_soundAt_23 : decode Y_Model_soundAt.2.1 23 = .ok (.bipush 70, 2) := by decide +kernel
theorem k_Model_soundAt_25 : decode Y_Model_soundAt.2.1 25 = .ok (.iload_n 1, 1) := by decide +kernel
theorem k_Model_soundAt_26 : decode Y_Model_soundAt.2.1 26 = .ok (.iadd, 1) := by decide +kernel
theorem k_Model_soundAt_27 : decode Y_Model_soundAt.2.1 27 = .ok (.iaload, 1) := by decide +kernel
theorem k_Model_soundAt_28 : decode Y_Model_soundAt.2.1 28 = .ok (.iload_n 2, 1) := by decide +kernel
theorem k_Model_soundAt_29 : decode Y_Model_soundAt.2.1 29 = .ok (.invokevirtual 107, 3) := by decide +kernel
theorem k_Model_soundAt_32 : decode Y_Model_soundAt.2.1 32 = .ok (.ireturn, 1) := by decide +kernel
theorem k_Model_endOf_0 : decode Y_Model_endOf.2.1 0 = .ok (.aload_n 0, 1) := by decide +kernel
theorem k_Model_endOf_1 : decode Y_Model_endOf.2.1 1 = .ok (.getfield 13, 3) := by decide +kernel
theorem k_Model_endOf_4 : decode Y_Model_endOf.2.1 4 = .ok (.bipush 60, 2) := by decide +kernel
theorem k_Model_endOf_6 : decode Y_Model_endOf.2.1 6 = .ok (.iload_n 1, 1) := by decide +kernel
theorem k_Model_endOf_7 : decode Y_Model_endOf.2.1 7 = .ok (.iadd, 1) := by decide +kernel
theorem k_Model_endOf_8 : decode Y_Model_endOf.2.1 8 = .ok (.iaload, 1) := by decide +kernel
theorem k_Model_endOf_9 : decode Y_Model_endOf.2.1 9 = .ok (.aload_n 0, 1) := by decide +kernel
theorem k_Model_endOf_10 : decode Y_Model_endOf.2.1 10 = .ok (.getfield 13, 3) := by decide +kernel
theorem k_Model_endOf_13 : decode Y_Model_endOf.2.1 13 = .ok (.iconst 2, 1) := by decide +kernel
theorem k_Model_endOf_14 : decode Y_Model_endOf.2.1 14 = .ok (.iaload, 1) := by decide +kernel
theorem k_Model_endOf_15 : decode Y_Model_endOf.2.1 15 = .ok (.aload_n 0, 1) := by decide +kernel
theorem k_Model_endOf_16 : decode Y_Model_endOf.2.1 16 = .ok (.aload_n 0, 1) := by decide +kernel
theorem k_Model_endOf_17 : decode Y_Model_endOf.2.1 17 = .ok (.getfield 13, 3) := by decide +kernel
theorem k_Model_endOf_20 : decode Y_Model_endOf.2.1 20 = .ok (.bipush 50, 2) := by decide +kernel
theorem k_Model_endOf_22 : decode Y_Model_endOf.2.1 22 = .ok (.iload_n 1, 1) := by decide +kernel
theorem k_Model_endOf_23 : decode Y_Model_endOf.2.1 23 = .ok (.iadd, 1) := by decide +kernel
theorem k_Model_endOf_24 : decode Y_Model_endOf.2.1 24 = .ok (.iaload, 1) := by decide +kernel
theorem k_Model_endOf_25 : decode Y_Model_endOf.2.1 25 = .ok (.invokevirtual 100, 3) := by decide +kernel
theorem k_Model_endOf_28 : decode Y_Model_endOf.2.1 28 = .ok (.imul, 1) := by decide +kernel
theorem k_Model_endOf_29 : decode Y_Model_endOf.2.1 29 = .ok (.iadd, 1) := by decide +kernel
theorem k_Model_endOf_30 : decode Y_Model_endOf.2.1 30 = .ok (.ireturn, 1) := by decide +kernel
theorem k_Model_end_0 : decode Y_Model_end.2.1 0 = .ok (.iconst 0, 1) := by decide +kernel
theorem k_Model_end_1 : decode Y_Model_end.2.1 1 = .ok (.istore_n 1, 1) := by decide +kernel
theorem k_Model_end_2 : decode Y_Model_end.2.1 2 = .ok (.iconst 0, 1) := by decide +kernel
theorem k_Model_end_3 : decode Y_Model_end.2.1 3 = .ok (.istore_n 2, 1) := by decide +kernel
theorem k_Model_end_4 : decode Y_Model_end.2.1 4 = .ok (.iload_n 2, 1) := by decide +kernel
theorem k_Model_end_5 : decode Y_Model_end.2.1 5 = .ok (.aload_n 0, 1) := by decide +kernel
theorem k_Model_end_6 : decode Y_Model_end.2.1 6 = .ok (.getfield 13, 3) := by decide +kernel
theorem k_Model_end_9 : decode Y_Model_end.2.1 9 = .ok (.iconst 1, 1) := by decide +kernel
theorem k_Model_end_10 : decode Y_Model_end.2.1 10 = .ok (.iaload, 1) := by decide +kernel
theorem k_Model_end_11 : decode Y_Model_end.2.1 11 = .ok (.if_icmp .ge 28, 3) := by decide +kernel
theorem k_Model_end_14 : decode Y_Model_end.2.1 14 = .ok (.aload_n 0, 1) := by decide +kernel
theorem k_Model_end_15 : decode Y_Model_end.2.1 15 = .ok (.getfield 13, 3) := by decide +kernel
theorem k_Model_end_18 : decode Y_Model_end.2.1 18 = .ok (.iconst 0, 1) := by decide +kernel
theorem k_Model_end_19 : decode Y_Model_end.2.1 19 = .ok (.iaload, 1) := by decide +kernel
theorem k_Model_end_20 : decode Y_Model_end.2.1 20 = .ok (.ifCond .le 19, 3) := by decide +kernel
theorem k_Model_end_23 : decode Y_Model_end.2.1 23 = .ok (.iload_n 1, 1) := by decide +kernel
theorem k_Model_end_24 : decode Y_Model_end.2.1 24 = .ok (.aload_n 0, 1) := by decide +kernel
theorem k_Model_end_25 : decode Y_Model_end.2.1 25 = .ok (.iload_n 2, 1) := by decide +kernel
theorem k_Model_end_26 : decode Y_Model_end.2.1 26 = .ok (.invokevirtual 111, 3) := by decide +kernel
theorem k_Model_end_29 : decode Y_Model_end.2.1 29 = .ok (.invokestatic 114, 3) := by decide +kernel
theorem k_Model_end_32 : decode Y_Model_end.2.1 32 = .ok (.istore_n 1, 1) := by decide +kernel
theorem k_Model_end_33 : decode Y_Model_end.2.1 33 = .ok (.iinc 2 1, 3) := by decide +kernel
theorem k_Model_end_36 : decode Y_Model_end.2.1 36 = .ok (.goto (-32), 3) := by decide +kernel
theorem k_Model_end_39 : decode Y_Model_end.2.1 39 = .ok (.iload_n 1, 1) := by decide +kernel
theorem k_Model_end_40 : decode Y_Model_end.2.1 40 = .ok (.ireturn, 1) := by decide +kernel
theorem k_Model_agree_0 : decode Y_Model_agree.2.1 0 = .ok (.iload_n 1, 1) := by decide +kernel
theorem k_Model_agree_1 : decode Y_Model_agree.2.1 1 = .ok (.sipush 999, 3) := by decide +kernel
theorem k_Model_agree_4 : decode Y_Model_agree.2.1 4 = .ok (.if_icmp .eq 32, 3) := by decide +kernel
theorem k_Model_agree_7 : decode Y_Model_agree.2.1 7 = .ok (.iload_n 2, 1) := by decide +kernel
theorem k_Model_agree_8 : decode Y_Model_agree.2.1 8 = .ok (.sipush 999, 3) := by decide +kernel
theorem k_Model_agree_11 : decode Y_Model_agree.2.1 11 = .ok (.if_icmp .eq 25, 3) := by decide +kernel
theorem k_Model_agree_14 : decode Y_Model_agree.2.1 14 = .ok (.aload_n 0, 1) := by decide +kernel
theorem k_Model_agree_15 : decode Y_Model_agree.2.1 15 = .ok (.getfield 13, 3) := by decide +kernel
theorem k_Model_agree_18 : decode Y_Model_agree.2.1 18 = .ok (.iconst 4, 1) := by decide +kernel
theorem k_Model_agree_19 : decode Y_Model_agree.2.1 19 = .ok (.iaload, 1) := by decide +kernel
theorem k_Model_agree_20 : decode Y_Model_agree.2.1 20 = .ok (.iload_n 1, 1) := by decide +kernel
theorem k_Model_agree_21 : decode Y_Model_agree.2.1 21 = .ok (.iload_n 2, 1) := by decide +kernel
theorem k_Model_agree_22 : decode Y_Model_agree.2.1 22 = .ok (.isub, 1) := by decide +kernel
theorem k_Model_agree_23 : decode Y_Model_agree.2.1 23 = .ok (.invokestatic 119, 3) := by decide +kernel
theorem k_Model_agree_26 : decode Y_Model_agree.2.1 26 = .ok (.bipush 7, 2) := by decide +kernel
theorem k_Model_agree_28 : decode Y_Model_agree.2.1 28 = .ok (.irem, 1) := by decide +kernel
theorem k_Model_agree_29 : decode Y_Model_agree.2.1 29 = .ok (.ishr, 1) := by decide +kernel
theorem k_Model_agree_30 : decode Y_Model_agree.2.1 30 = .ok (.iconst 1, 1) := by decide +kernel
theorem k_Model_agree_31 : decode Y_Model_agree.2.1 31 = .ok (.iand, 1) := by decide +kernel
theorem k_Model_agree_32 : decode Y_Model_agree.2.1 32 = .ok (.iconst 1, 1) := by decide +kernel
theorem k_Model_agree_33 : decode Y_Model_agree.2.1 33 = .ok (.if_icmp .ne 7, 3) := by decide +kernel
theorem k_Model_agree_36 : decode Y_Model_agree.2.1 36 = .ok (.iconst 1, 1) := by decide +kernel
theorem k_Model_agree_37 : decode Y_Model_agree.2.1 37 = .ok (.goto 4, 3) := by decide +kernel
theorem k_Model_agree_40 : decode Y_Model_agree.2.1 40 = .ok (.iconst 0, 1) := by decide +kernel
theorem k_Model_agree_41 : decode Y_Model_agree.2.1 41 = .ok (.ireturn, 1) := by decide +kernel
theorem k_Model_illAt_0 : decode Y_Model_illAt.2.1 0 = .ok (.iconst 0, 1) := by decide +kernel
theorem k_Model_illAt_1 : decode Y_Model_illAt.2.1 1 = .ok (.istore_n 3, 1) := by decide +kernel
theorem k_Model_illAt_2 : decode Y_Model_illAt.2.1 2 = .ok (.aload_n 0, 1) := by decide +kernel
theorem k_Model_illAt_3 : decode Y_Model_illAt.2.1 3 = .ok (.bipush (-9), 2) := by decide +kernel
theorem k_Model_illAt_5 : decode Y_Model_illAt.2.1 5 = .ok (.putfield 122, 3) := by decide +kernel
theorem k_Model_illAt_8 : decode Y_Model_illAt.2.1 8 = .ok (.iconst 0, 1) := by decide +kernel
theorem k_Model_illAt_9 : decode Y_Model_illAt.2.1 9 = .ok (.istore 4, 2) := by decide +kernel
theorem k_Model_illAt_11 : decode Y_Model_illAt.2.1 11 = .ok (.iload 4, 2) := by decide +kernel
theorem k_Model_illAt_13 : decode Y_Model_illAt.2.1 13 = .ok (.aload_n 0, 1) := by decide +kernel
theorem k_Model_illAt_14 : decode Y_Model_illAt.2.1 14 = .ok (.getfield 13, 3) := by decide +kernel
theorem k_Model_illAt_17 : decode Y_Model_illAt.2.1 17 = .ok (.iconst 1, 1) := by decide +kernel
theorem k_Model_illAt_18 : decode Y_Model_illAt.2.1 18 = .ok (.iaload, 1) := by decide +kernel
theorem k_Model_illAt_19 : decode Y_Model_illAt.2.1 19 = .ok (.if_icmp .ge 35, 3) := by decide +kernel
theorem k_Model_illAt_22 : decode Y_Model_illAt.2.1 22 = .ok (.aload_n 0, 1) := by decide +kernel
theorem k_Model_illAt_23 : decode Y_Model_illAt.2.1 23 = .ok (.getfield 35, 3) := by decide +kernel
theorem k_Model_illAt_26 : decode Y_Model_illAt.2.1 26 = .ok (.iload 4, 2) := by decide +kernel
theorem k_Model_illAt_28 : decode Y_Model_illAt.2.1 28 = .ok (.iload 4, 2) := by decide +kernel
theorem k_Model_illAt_30 : decode Y_Model_illAt.2.1 30 = .ok (.iload_n 2, 1) := by decide +kernel
theorem k_Model_illAt_31 : decode Y_Model_illAt.2.1 31 = .ok (.if_icmp .ne 9, 3) := by decide +kernel
theorem k_Model_illAt_34 : decode Y_Model_illAt.2.1 34 = .ok (.sipush 999, 3) := by decide +kernel
theorem k_Model_illAt_37 : decode Y_Model_illAt.2.1 37 = .ok (.goto 10, 3) := by decide +kernel
theorem k_Model_illAt_40 : decode Y_Model_illAt.2.1 40 = .ok (.aload_n 0, 1) := by decide +kernel
theorem k_Model_illAt_41 : decode Y_Model_illAt.2.1 41 = .ok (.iload 4, 2) := by decide +kernel
theorem k_Model_illAt_43 : decode Y_Model_illAt.2.1 43 = .ok (.iload_n 1, 1) := by decide +kernel
theorem k_Model_illAt_44 : decode Y_Model_illAt.2.1 44 = .ok (.invokevirtual 125, 3) := by decide +kernel
theorem k_Model_illAt_47 : decode Y_Model_illAt.2.1 47 = .ok (.iastore, 1) := by decide +kernel
theorem k_Model_illAt_48 : decode Y_Model_illAt.2.1 48 = .ok (.iinc 4 1, 3) := by decide +kernel
theorem k_Model_illAt_51 : decode Y_Model_illAt.2.1 51 = .ok (.goto (-40), 3) := by decide +kernel
theorem k_Model_illAt_54 : decode Y_Model_illAt.2.1 54 = .ok (.iconst 0, 1) := by decide +kernel
theorem k_Model_illAt_55 : decode Y_Model_illAt.2.1 55 = .ok (.istore 4, 2) := by decide +kernel
theorem k_Model_illAt_57 : decode Y_Model_illAt.2.1 57 = .ok (.iload 4, 2) := by decide +kernel
theorem k_Model_illAt_59 : decode Y_Model_illAt.2.1 59 = .ok (.aload_n 0, 1) := by decide +kernel
theorem k_Model_illAt_60 : decode Y_Model_illAt.2.1 60 = .ok (.getfield 13, 3) := by decide +kernel
theorem k_Model_illAt_63 : decode Y_Model_illAt.2.1 63 = .ok (.iconst 1, 1) := by decide +kernel
theorem k_Model_illAt_64 : decode Y_Model_illAt.2.1 64 = .ok (.iaload, 1) := by decide +kernel
theorem k_Model_illAt_65 : decode Y_Model_illAt.2.1 65 = .ok (.if_icmp .ge 79, 3) := by decide +kernel
theorem k_Model_illAt_68 : decode Y_Model_illAt.2.1 68 = .ok (.iload 4, 2) := by decide +kernel
theorem k_Model_illAt_70 : decode Y_Model_illAt.2.1 70 = .ok (.iconst 1, 1) := by decide +kernel
theorem k_Model_illAt_71 : decode Y_Model_illAt.2.1 71 = .ok (.iadd, 1) := by decide +kernel
theorem k_Model_illAt_72 : decode Y_Model_illAt.2.1 72 = .ok (.istore 5, 2) := by decide +kernel
theorem k_Model_illAt_74 : decode Y_Model_illAt.2.1 74 = .ok (.iload 5, 2) := by decide +kernel
theorem k_Model_illAt_76 : decode Y_Model_illAt.2.1 76 = .ok (.aload_n 0, 1) := by decide +kernel
theorem k_Model_illAt_77 : decode Y_Model_illAt.2.1 77 = .ok (.getfield 13, 3) := by decide +kernel
theorem k_Model_illAt_80 : decode Y_Model_illAt.2.1 80 = .ok (.iconst 1, 1) := by decide +kernel
theorem k_Model_illAt_81 : decode Y_Model_illAt.2.1 81 = .ok (.iaload, 1) := by decide +kernel
theorem k_Model_illAt_82 : decode Y_Model_illAt.2.1 82 = .ok (.if_icmp .ge 56, 3) := by decide +kernel
theorem k_Model_illAt_85 : decode Y_Model_illAt.2.1 85 = .ok (.aload_n 0, 1) := by decide +kernel
theorem k_Model_illAt_86 : decode Y_Model_illAt.2.1 86 = .ok (.aload_n 0, 1) := by decide +kernel
theorem k_Model_illAt_87 : decode Y_Model_illAt.2.1 87 = .ok (.getfield 35, 3) := by decide +kernel
theorem k_Model_illAt_90 : decode Y_Model_illAt.2.1 90 = .ok (.iload 4, 2) := by decide +kernel
theorem k_Model_illAt_92 : decode Y_Model_illAt.2.1 92 = .ok (.iaload, 1) := by decide +kernel
theorem k_Model_illAt_93 : decode Y_Model_illAt.2.1 93 = .ok (.aload_n 0, 1) := by decide +kernel
theorem k_Model_illAt_94 : decode Y_Model_illAt.2.1 94 = .ok (.getfield 35, 3) := by decide +kernel
theorem k_Model_illAt_97 : decode Y_Model_illAt.2.1 97 = .ok (.iload 5, 2) := by decide +kernel
theorem k_Model_illAt_99 : decode Y_Model_illAt.2.1 99 = .ok (.iaload, 1) := by decide +kernel
theorem k_Model_illAt_100 : decode Y_Model_illAt.2.1 100 = .ok (.invokevirtual 128, 3) := by decide +kernel
theorem k_Model_illAt_103 : decode Y_Model_illAt.2.1 103 = .ok (.ifCond .ne 29, 3) := by decide +kernel
theorem k_Model_illAt_106 : decode Y_Model_illAt.2.1 106 = .ok (.aload_n 0, 1) := by decide +kernel
theorem k_Model_illAt_107 : decode Y_Model_illAt.2.1 107 = .ok (.iload_n 3, 1) := by decide +kernel
theorem k_Model_illAt_108 : decode Y_Model_illAt.2.1 108 = .ok (.ifCond .ne 14, 3) := by decide +kernel
theorem k_Model_illAt_111 : decode Y_Model_illAt.2.1 111 = .ok (.bipush 10, 2) := by decide +kernel
theorem k_Model_illAt_113 : decode Y_Model_illAt.2.1 113 = .ok (.iload 4, 2) := by decide +kernel
theorem k_Model_illAt_115 : decode Y_Model_illAt.2.1 115 = .ok (.imul, 1) := by decide +kernel
theorem k_Model_illAt_116 : decode Y_Model_illAt.2.1 116 = .ok (.iload 5, 2) := by decide +kernel
theorem k_Model_illAt_118 : decode Y_Model_illAt.2.1 118 = .ok (.iadd, 1) := by decide +kernel
theorem k_Model_illAt_119 : decode Y_Model_illAt.2.1 119 = .ok (.goto 7, 3) := by decide +kernel
theorem k_Model_illAt_122 : decode Y_Model_illAt.2.1 122 = .ok (.aload_n 0, 1) := by decide +kernel
theorem k_Model_illAt_123 : decode Y_Model_illAt.2.1 123 = .ok (.getfield 122, 3) := by decide +kernel
theorem k_Model_illAt_126 : decode Y_Model_illAt.2.1 126 = .ok (.putfield 122, 3) := by decide +kernel
theorem k_Model_illAt_129 : decode Y_Model_illAt.2.1 129 = .ok (.iinc 3 1, 3) := by decide +kernel
theorem k_Model_illAt_132 : decode Y_Model_illAt.2.1 132 = .ok (.iinc 5 1, 3) := by decide +kernel
theorem k_Model_illAt_135 : decode Y_Model_illAt.2.1 135 = .ok (.goto (-61), 3) := by decide +kernel
theorem k_Model_illAt_138 : decode Y_Model_illAt.2.1 138 = .ok (.iinc 4 1, 3) := by decide +kernel
theorem k_Model_illAt_141 : decode Y_Model_illAt.2.1 141 = .ok (.goto (-84), 3) := by decide +kernel
theorem k_Model_illAt_144 : decode Y_Model_illAt.2.1 144 = .ok (.iload_n 3, 1) := by decide +kernel
theorem k_Model_illAt_145 : decode Y_Model_illAt.2.1 145 = .ok (.ireturn, 1) := by decide +kernel
theorem k_Model_illAll_0 : decode Y_Model_illAll.2.1 0 = .ok (.iconst 0, 1) := by decide +kernel
theorem k_Model_illAll_1 : decode Y_Model_illAll.2.1 1 = .ok (.istore_n 2, 1) := by decide +kernel
theorem k_Model_illAll_2 : decode Y_Model_illAll.2.1 2 = .ok (.aload_n 0, 1) := by decide +kernel
theorem k_Model_illAll_3 : decode Y_Model_illAll.2.1 3 = .ok (.invokevirtual 131, 3) := by decide +kernel
theorem k_Model_illAll_6 : decode Y_Model_illAll.2.1 6 = .ok (.istore_n 3, 1) := by decide +kernel
theorem k_Model_illAll_7 : decode Y_Model_illAll.2.1 7 = .ok (.iconst 0, 1) := by decide +kernel
theorem k_Model_illAll_8 : decode Y_Model_illAll.2.1 8 = .ok (.istore 4, 2) := by decide +kernel
theorem k_Model_illAll_10 : decode Y_Model_illAll.2.1 10 = .ok (.iload 4, 2) := by decide +kernel
theorem k_Model_illAll_12 : decode Y_Model_illAll.2.1 12 = .ok (.iload_n 3, 1) := by decide +kernel
theorem k_Model_illAll_13 : decode Y_Model_illAll.2.1 13 = .ok (.if_icmp .ge 19, 3) := by decide +kernel
theorem k_Model_illAll_16 : decode Y_Model_illAll.2.1 16 = .ok (.iload_n 2, 1) := by decide +kernel
theorem k_Model_illAll_17 : decode Y_Model_illAll.2.1 17 = .ok (.aload_n 0, 1) := by decide +kernel
theorem k_Model_illAll_18 : decode Y_Model_illAll.2.1 18 = .ok (.iload 4, 2) := by decide +kernel
theorem k_Model_illAll_20 : decode Y_Model_illAll.2.1 20 = .ok (.iload_n 1, 1) := by decide +kernel
theorem k_Model_illAll_21 : decode Y_Model_illAll.2.1 21 = .ok (.invokevirtual 134, 3) := by decide +kernel
theorem k_Model_illAll_24 : decode Y_Model_illAll.2.1 24 = .ok (.iadd, 1) := by decide +kernel
theorem k_Model_illAll_25 : decode Y_Model_illAll.2.1 25 = .ok (.istore_n 2, 1) := by decide +kernel
theorem k_Model_illAll_26 : decode Y_Model_illAll.2.1 26 = .ok (.iinc 4 1, 3) := by decide +kernel
theorem k_Model_illAll_29 : decode Y_Model_illAll.2.1 29 = .ok (.goto (-19), 3) := by decide +kernel
theorem k_Model_illAll_32 : decode Y_Model_illAll.2.1 32 = .ok (.iload_n 2, 1) := by decide +kernel
theorem k_Model_illAll_33 : decode Y_Model_illAll.2.1 33 = .ok (.ireturn, 1) := by decide +kernel
theorem k_Model_isWell_0 : decode Y_Model_isWell.2.1 0 = .ok (.aload_n 0, 1) := by decide +kernel
theorem k_Model_isWell_1 : decode Y_Model_isWell.2.1 1 = .ok (.invokevirtual 131, 3) := by decide +kernel
theorem k_Model_isWell_4 : decode Y_Model_isWell.2.1 4 = .ok (.istore_n 1, 1) := by decide +kernel
theorem k_Model_isWell_5 : decode Y_Model_isWell.2.1 5 = .ok (.iconst 0, 1) := by decide +kernel
theorem k_Model_isWell_6 : decode Y_Model_isWell.2.1 6 = .ok (.istore_n 2, 1) := by decide +kernel
theorem k_Model_isWell_7 : decode Y_Model_isWell.2.1 7 = .ok (.iload_n 2, 1) := by decide +kernel
theorem k_Model_isWell_8 : decode Y_Model_isWell.2.1 8 = .ok (.iload_n 1, 1) := by decide +kernel
theorem k_Model_isWell_9 : decode Y_Model_isWell.2.1 9 = .ok (.if_icmp .ge 21, 3) := by decide +kernel
theorem k_Model_isWell_12 : decode Y_Model_isWell.2.1 12 = .ok (.aload_n 0, 1) := by decide +kernel
theorem k_Model_isWell_13 : decode Y_Model_isWell.2.1 13 = .ok (.iload_n 2, 1) := by decide +kernel
theorem k_Model_isWell_14 : decode Y_Model_isWell.2.1 14 = .ok (.bipush (-9), 2) := by decide +kernel
theorem k_Model_isWell_16 : decode Y_Model_isWell.2.1 16 = .ok (.invokevirtual 134, 3) := by decide +kernel
theorem k_Model_isWell_19 : decode Y_Model_isWell.2.1 19 = .ok (.ifCond .le 5, 3) := by decide +kernel
theorem k_Model_isWell_22 : decode Y_Model_isWell.2.1 22 = .ok (.iconst 0, 1) := by decide +kernel
theorem k_Model_isWell_23 : decode Y_Model_isWell.2.1 23 = .ok (.ireturn, 1) := by decide +kernel
theorem k_Model_isWell_24 : decode Y_Model_isWell.2.1 24 = .ok (.iinc 2 1, 3) := by decide +kernel
theorem k_Model_isWell_27 : decode Y_Model_isWell.2.1 27 = .ok (.goto (-20), 3) := by decide +kernel
theorem k_Model_isWell_30 : decode Y_Model_isWell.2.1 30 = .ok (.iconst 1, 1) := by decide +kernel
theorem k_Model_isWell_31 : decode Y_Model_isWell.2.1 31 = .ok (.ireturn, 1) := by decide +kernel
theorem k_Model_isNoNote_0 : decode Y_Model_isNoNote.2.1 0 = .ok (.iload_n 1, 1) := by decide +kernel
theorem k_Model_isNoNote_1 : decode Y_Model_isNoNote.2.1 1 = .ok (.ifCond .lt 13, 3) := by decide +kernel
theorem k_Model_isNoNote_4 : decode Y_Model_isNoNote.2.1 4 = .ok (.iload_n 1, 1) := by decide +kernel
theorem k_Model_isNoNote_5 : decode Y_Model_isNoNote.2.1 5 = .ok (.aload_n 0, 1) := by decide +kernel
theorem k_Model_isNoNote_6 : decode Y_Model_isNoNote.2.1 6 = .ok (.getfield 13, 3) := by decide +kernel
theorem k_Model_isNoNote_9 : decode Y_Model_isNoNote.2.1 9 = .ok (.iconst 0, 1) := by decide +kernel
theorem k_Model_isNoNote_10 : decode Y_Model_isNoNote.2.1 10 = .ok (.iaload, 1) := by decide +kernel
theorem k_Model_isNoNote_11 : decode Y_Model_isNoNote.2.1 11 = .ok (.if_icmp .lt 7, 3) := by decide +kernel
theorem k_Model_isNoNote_14 : decode Y_Model_isNoNote.2.1 14 = .ok (.iconst 1, 1) := by decide +kernel
theorem k_Model_isNoNote_15 : decode Y_Model_isNoNote.2.1 15 = .ok (.goto 4, 3) := by decide +kernel
theorem k_Model_isNoNote_18 : decode Y_Model_isNoNote.2.1 18 = .ok (.iconst 0, 1) := by decide +kernel
theorem k_Model_isNoNote_19 : decode Y_Model_isNoNote.2.1 19 = .ok (.ireturn, 1) := by decide +kernel
theorem k_Model_isNoVoice_0 : decode Y_Model_isNoVoice.2.1 0 = .ok (.iload_n 1, 1) := by decide +kernel
theorem k_Model_isNoVoice_1 : decode Y_Model_isNoVoice.2.1 1 = .ok (.ifCond .lt 13, 3) := by decide +kernel
theorem k_Model_isNoVoice_4 : decode Y_Model_isNoVoice.2.1 4 = .ok (.iload_n 1, 1) := by decide +kernel
theorem k_Model_isNoVoice_5 : decode Y_Model_isNoVoice.2.1 5 = .ok (.aload_n 0, 1) := by decide +kernel
theorem k_Model_isNoVoice_6 : decode Y_Model_isNoVoice.2.1 6 = .ok (.getfield 13, 3) := by decide +kernel
theorem k_Model_isNoVoice_9 : decode Y_Model_isNoVoice.2.1 9 = .ok (.iconst 1, 1) := by decide +kernel
theorem k_Model_isNoVoice_10 : decode Y_Model_isNoVoice.2.1 10 = .ok (.iaload, 1) := by decide +kernel
theorem k_Model_isNoVoice_11 : decode Y_Model_isNoVoice.2.1 11 = .ok (.if_icmp .lt 7, 3) := by decide +kernel
theorem k_Model_isNoVoice_14 : decode Y_Model_isNoVoice.2.1 14 = .ok (.iconst 1, 1) := by decide +kernel
theorem k_Model_isNoVoice_15 : decode Y_Model_isNoVoice.2.1 15 = .ok (.goto 4, 3) := by decide +kernel
theorem k_Model_isNoVoice_18 : decode Y_Model_isNoVoice.2.1 18 = .ok (.iconst 0, 1) := by decide +kernel
theorem k_Model_isNoVoice_19 : decode Y_Model_isNoVoice.2.1 19 = .ok (.ireturn, 1) := by decide +kernel
theorem k_Model_note_0 : decode Y_Model_note.2.1 0 = .ok (.aload_n 0, 1) := by decide +kernel
theorem k_Model_note_1 : decode Y_Model_note.2.1 1 = .ok (.iload_n 1, 1) := by decide +kernel
theorem k_Model_note_2 : decode Y_Model_note.2.1 2 = .ok (.invokevirtual 137, 3) := by decide +kernel
theorem k_Model_note_5 : decode Y_Model_note.2.1 5 = .ok (.ifCond .eq 9, 3) := by decide +kernel
theorem k_Model_note_8 : decode Y_Model_note.2.1 8 = .ok (.aload_n 0, 1) := by decide +kernel
theorem k_Model_note_9 : decode Y_Model_note.2.1 9 = .ok (.iconst (-1), 1) := by decide +kernel
theorem k_Model_note_10 : decode Y_Model_note.2.1 10 = .ok (.invokevirtual 49, 3) := by decide +kernel
theorem k_Model_note_13 : decode Y_Model_note.2.1 13 = .ok (.ireturn, 1) := by decide +kernel
theorem k_Model_note_14 : decode Y_Model_note.2.1 14 = .ok (.iload_n 2, 1) := by decide +kernel
theorem k_Model_note_15 : decode Y_Model_note.2.1 15 = .ok (.ifCond .lt 8, 3) := by decide +kernel
theorem k_Model_note_18 : decode Y_Model_note.2.1 18 = .ok (.iload_n 2, 1) := by decide +kernel
theorem k_Model_note_19 : decode Y_Model_note.2.1 19 = .ok (.iconst 2, 1) := by decide +kernel
theorem k_Model_note_20 : decode Y_Model_note.2.1 20 = .ok (.if_icmp .le 10, 3) := by decide +kernel
theorem k_Model_note_23 : decode Y_Model_note.2.1 23 = .ok (.aload_n 0, 1) := by decide +kernel
theorem k_Model_note_24 : decode Y_Model_note.2.1 24 = .ok (.bipush (-2), 2) := by decide +kernel
theorem k_Model_note_26 : decode Y_Model_note.2.1 26 = .ok (.invokevirtual 49, 3) := by decide +kernel
theorem k_Model_note_29 : decode Y_Model_note.2.1 29 = .ok (.ireturn, 1) := by decide +kernel
theorem k_Model_note_30 : decode Y_Model_note.2.1 30 = .ok (.iload_n 2, 1) := by decide +kernel
theorem k_Model_note_31 : decode Y_Model_note.2.1 31 = .ok (.ifCond .ne 15, 3) := by decide +kernel
theorem k_Model_note_34 : decode Y_Model_note.2.1 34 = .ok (.aload_n 0, 1) := by decide +kernel
theorem k_Model_note_35 : decode Y_Model_note.2.1 35 = .ok (.getfield 13, 3) := by decide +kernel
theorem k_Model_note_38 : decode Y_Model_note.2.1 38 = .ok (.bipush 10, 2) := by decide +kernel
theorem k_Model_note_40 : decode Y_Model_note.2.1 40 = .ok (.iload_n 1, 1) := by decide +kernel
theorem k_Model_note_41 : decode Y_Model_note.2.1 41 = .ok (.iadd, 1) := by decide +kernel
theorem k_Model_note_42 : decode Y_Model_note.2.1 42 = .ok (.iaload, 1) := by decide +kernel
theorem k_Model_note_43 : decode Y_Model_note.2.1 43 = .ok (.goto 25, 3) := by decide +kernel
theorem k_Model_note_46 : decode Y_Model_note.2.1 46 = .ok (.iload_n 2, 1) := by decide +kernel
theorem k_Model_note_47 : decode Y_Model_note.2.1 47 = .ok (.iconst 1, 1) := by decide +kernel
theorem k_Model_note_48 : decode Y_Model_note.2.1 48 = .ok (.if_icmp .ne 15, 3) := by decide +kernel
theorem k_Model_note_51 : decode Y_Model_note.2.1 51 = .ok (.aload_n 0, 1) := by decide +kernel
theorem k_Model_note_52 : decode Y_Model_note.2.1 52 = .ok (.getfield 13, 3) := by decide +kernel
theorem k_Model_note_55 : decode Y_Model_note.2.1 55 = .ok (.bipush 30, 2) := by decide +kernel
theorem k_Model_note_57 : decode Y_Model_note.2.1 57 = .ok (.iload_n 1, 1) := by decide +kernel
theorem k_Model_note_58 : decode Y_Model_note.2.1 58 = .ok (.iadd, 1) := by decide +kernel
theorem k_Model_note_59 : decode Y_Model_note.2.1 59 = .ok (.iaload, 1) := by decide +kernel
theorem k_Model_note_60 : decode Y_Model_note.2.1 60 = .ok (.goto 8, 3) := by decide +kernel
theorem k_Model_note_63 : decode Y_Model_note.2.1 63 = .ok (.aload_n 0, 1) := by decide +kernel
theorem k_Model_note_64 : decode Y_Model_note.2.1 64 = .ok (.iload_n 1, 1) := by decide +kernel
theorem k_Model_note_65 : decode Y_Model_note.2.1 65 = .ok (.invokevirtual 91, 3) := by decide +kernel
theorem k_Model_note_68 : decode Y_Model_note.2.1 68 = .ok (.ireturn, 1) := by decide +kernel
theorem k_Model_voice_0 : decode Y_Model_voice.2.1 0 = .ok (.aload_n 0, 1) := by decide +kernel
theorem k_Model_voice_1 : decode Y_Model_voice.2.1 1 = .ok (.iload_n 1, 1) := by decide +kernel
theorem k_Model_voice_2 : decode Y_Model_voice.2.1 2 = .ok (.invokevirtual 141, 3) := by decide +kernel
theorem k_Model_voice_5 : decode Y_Model_voice.2.1 5 = .ok (.ifCond .eq 9, 3) := by decide +kernel
theorem k_Model_voice_8 : decode Y_Model_voice.2.1 8 = .ok (.aload_n 0, 1) := by decide +kernel
theorem k_Model_voice_9 : decode Y_Model_voice.2.1 9 = .ok (.iconst (-1), 1) := by decide +kernel
theorem k_Model_voice_10 : decode Y_Model_voice.2.1 10 = .ok (.invokevirtual 49, 3) := by decide +kernel
theorem k_Model_voice_13 : decode Y_Model_voice.2.1 13 = .ok (.ireturn, 1) := by decide +kernel
theorem k_Model_voice_14 : decode Y_Model_voice.2.1 14 = .ok (.iload_n 2, 1) := by decide +kernel
theorem k_Model_voice_15 : decode Y_Model_voice.2.1 15 = .ok (.tableswitch 83 0 4 #[33, 43, 53, 63, 77], 33) := by decide +kernel
theorem k_Model_voice_48 : decode Y_Model_voice.2.1 48 = .ok (.aload_n 0, 1) := by decide +kernel
theorem k_Model_voice_49 : decode Y_Model_voice.2.1 49 = .ok (.getfield 13, 3) := by decide +kernel
theorem k_Model_voice_52 : decode Y_Model_voice.2.1 52 = .ok (.bipush 50, 2) := by decide +kernel
theorem k_Model_voice_54 : decode Y_Model_voice.2.1 54 = .ok (.iload_n 1, 1) := by decide +kernel
theorem k_Model_voice_55 : decode Y_Model_voice.2.1 55 = .ok (.iadd, 1) := by decide +kernel
theorem k_Model_voice_56 : decode Y_Model_voice.2.1 56 = .ok (.iaload, 1) := by decide +kernel
theorem k_Model_voice_57 : decode Y_Model_voice.2.1 57 = .ok (.ireturn, 1) := by decide +kernel
theorem k_Model_voice_58 : decode Y_Model_voice.2.1 58 = .ok (.aload_n 0, 1) := by decide +kernel
theorem k_Model_voice_59 : decode Y_Model_voice.2.1 59 = .ok (.getfield 13, 3) := by decide +kernel
theorem k_Model_voice_62 : decode Y_Model_voice.2.1 62 = .ok (.bipush 60, 2) := by decide +kernel
theorem k_Model_voice_64 : decode Y_Model_voice.2.1 64 = .ok (.iload_n 1, 1) := by decide +kernel
theorem k_Model_voice_65 : decode Y_Model_voice.2.1 65 = .ok (.iadd, 1) := by decide +kernel
theorem k_Model_voice_66 : decode Y_Model_voice.2.1 66 = .ok (.iaload, 1) := by decide +kernel
theorem k_Model_voice_67 : decode Y_Model_voice.2.1 67 = .ok (.ireturn, 1) := by decide +kernel
theorem k_Model_voice_68 : decode Y_Model_voice.2.1 68 = .ok (.aload_n 0, 1) := by decide +kernel
theorem k_Model_voice_69 : decode Y_Model_voice.2.1 69 = .ok (.getfield 13, 3) := by decide +kernel
theorem k_Model_voice_72 : decode Y_Model_voice.2.1 72 = .ok (.bipush 70, 2) := by decide +kernel
theorem k_Model_voice_74 : decode Y_Model_voice.2.1 74 = .ok (.iload_n 1, 1) := by decide +kernel
theorem k_Model_voice_75 : decode Y_Model_voice.2.1 75 = .ok (.iadd, 1) := by decide +kernel
theorem k_Model_voice_76 : decode Y_Model_voice.2.1 76 = .ok (.iaload, 1) := by decide +kernel
theorem k_Model_voice_77 : decode Y_Model_voice.2.1 77 = .ok (.ireturn, 1) := by decide +kernel
theorem k_Model_voice_78 : decode Y_Model_voice.2.1 78 = .ok (.aload_n 0, 1) := by decide +kernel
theorem k_Model_voice_79 : decode Y_Model_voice.2.1 79 = .ok (.aload_n 0, 1) := by decide +kernel
theorem k_Model_voice_80 : decode Y_Model_voice.2.1 80 = .ok (.getfield 13, 3) := by decide +kernel
theorem k_Model_voice_83 : decode Y_Model_voice.2.1 83 = .ok (.bipush 50, 2) := by decide +kernel
theorem k_Model_voice_85 : decode Y_Model_voice.2.1 85 = .ok (.iload_n 1, 1) := by decide +kernel
theorem k_Model_voice_86 : decode Y_Model_voice.2.1 86 = .ok (.iadd, 1) := by decide +kernel
theorem k_Model_voice_87 : decode Y_Model_voice.2.1 87 = .ok (.iaload, 1) := by decide +kernel
theorem k_Model_voice_88 : decode Y_Model_voice.2.1 88 = .ok (.invokevirtual 100, 3) := by decide +kernel
theorem k_Model_voice_91 : decode Y_Model_voice.2.1 91 = .ok (.ireturn, 1) := by decide +kernel
theorem k_Model_voice_92 : decode Y_Model_voice.2.1 92 = .ok (.aload_n 0, 1) := by decide +kernel
theorem k_Model_voice_93 : decode Y_Model_voice.2.1 93 = .ok (.iload_n 1, 1) := by decide +kernel
theorem k_Model_voice_94 : decode Y_Model_voice.2.1 94 = .ok (.invokevirtual 111, 3) := by decide +kernel
theorem k_Model_voice_97 : decode Y_Model_voice.2.1 97 = .ok (.ireturn, 1) := by decide +kernel
theorem k_Model_voice_98 : decode Y_Model_voice.2.1 98 = .ok (.aload_n 0, 1) := by decide +kernel
theorem k_Model_voice_99 : decode Y_Model_voice.2.1 99 = .ok (.bipush (-2), 2) := by decide +kernel
theorem k_Model_voice_101 : decode Y_Model_voice.2.1 101 = .ok (.invokevirtual 49, 3) := by decide +kernel
theorem k_Model_voice_104 : decode Y_Model_voice.2.1 104 = .ok (.ireturn, 1) := by decide +kernel
theorem k_Model_become_0 : decode Y_Model_become.2.1 0 = .ok (.iload_n 2, 1) := by decide +kernel
theorem k_Model_become_1 : decode Y_Model_become.2.1 1 = .ok (.iload_n 3, 1) := by decide +kernel
theorem k_Model_become_2 : decode Y_Model_become.2.1 2 = .ok (.if_icmp .ge 10, 3) := by decide +kernel
theorem k_Model_become_5 : decode Y_Model_become.2.1 5 = .ok (.aload_n 0, 1) := by decide +kernel
theorem k_Model_become_6 : decode Y_Model_become.2.1 6 = .ok (.bipush (-4), 2) := by decide +kernel
theorem k_Model_become_8 : decode Y_Model_become.2.1 8 = .ok (.invokevirtual 49, 3) := by decide +kernel
theorem k_Model_become_11 : decode Y_Model_become.2.1 11 = .ok (.ireturn, 1) := by decide +kernel
theorem k_Model_become_12 : decode Y_Model_become.2.1 12 = .ok (.iload_n 2, 1) := by decide +kernel
theorem k_Model_become_13 : decode Y_Model_become.2.1 13 = .ok (.iload 4, 2) := by decide +kernel
theorem k_Model_become_15 : decode Y_Model_become.2.1 15 = .ok (.if_icmp .le 10, 3) := by decide +kernel
theorem k_Model_become_18 : decode Y_Model_become.2.1 18 = .ok (.aload_n 0, 1) := by decide +kernel
theorem k_Model_become_19 : decode Y_Model_become.2.1 19 = .ok (.bipush (-6), 2) := by decide +kernel
theorem k_Model_become_21 : decode Y_Model_become.2.1 21 = .ok (.invokevirtual 49, 3) := by decide +kernel
theorem k_Model_become_24 : decode Y_Model_become.2.1 24 = .ok (.ireturn, 1) := by decide +kernel
theorem k_Model_become_25 : decode Y_Model_become.2.1 25 = .ok (.aload_n 0, 1) := by decide +kernel
theorem k_Model_become_26 : decode Y_Model_become.2.1 26 = .ok (.getfield 13, 3) := by decide +kernel
theorem k_Model_become_29 : decode Y_Model_become.2.1 29 = .ok (.iload_n 1, 1) := by decide +kernel
theorem k_Model_become_30 : decode Y_Model_become.2.1 30 = .ok (.iaload, 1) := by decide +kernel
theorem k_Model_become_31 : decode Y_Model_become.2.1 31 = .ok (.istore 5, 2) := by decide +kernel
theorem k_Model_become_33 : decode Y_Model_become.2.1 33 = .ok (.aload_n 0, 1) := by decide +kernel
theorem k_Model_become_34 : decode Y_Model_become.2.1 34 = .ok (.getfield 13, 3) := by decide +kernel
theorem k_Model_become_37 : decode Y_Model_become.2.1 37 = .ok (.iload_n 1, 1) := by decide +kernel
theorem k_Model_become_38 : decode Y_Model_become.2.1 38 = .ok (.iload_n 2, 1) := by decide +kernel
theorem k_Model_become_39 : decode Y_Model_become.2.1 39 = .ok (.iastore, 1) := by decide +kernel
theorem k_Model_become_40 : decode Y_Model_become.2.1 40 = .ok (.iload 5, 2) := by decide +kernel
theorem k_Model_become_42 : decode Y_Model_become.2.1 42 = .ok (.ireturn, 1) := by decide +kernel
theorem k_Model_pitch_0 : decode Y_Model_pitch.2.1 0 = .ok (.aload_n 0, 1) := by decide +kernel
theorem k_Model_pitch_1 : decode Y_Model_pitch.2.1 1 = .ok (.iload_n 1, 1) := by decide +kernel
theorem k_Model_pitch_2 : decode Y_Model_pitch.2.1 2 = .ok (.invokevirtual 137, 3) := by decide +kernel
theorem k_Model_pitch_5 : decode Y_Model_pitch.2.1 5 = .ok (.ifCond .eq 11, 3) := by decide +kernel
theorem k_Model_pitch_8 : decode Y_Model_pitch.2.1 8 = .ok (.aload_n 0, 1) := by decide +kernel
theorem k_Model_pitch_9 : decode Y_Model_pitch.2.1 9 = .ok (.iconst (-1), 1) := by decide +kernel
theorem k_Model_pitch_10 : decode Y_Model_pitch.2.1 10 = .ok (.invokevirtual 49, 3) := by decide +kernel
theorem k_Model_pitch_13 : decode Y_Model_pitch.2.1 13 = .ok (.goto 15, 3) := by decide +kernel
theorem k_Model_pitch_16 : decode Y_Model_pitch.2.1 16 = .ok (.aload_n 0, 1) := by decide +kernel
theorem k_Model_pitch_17 : decode Y_Model_pitch.2.1 17 = .ok (.bipush 10, 2) := by decide +kernel
theorem k_Model_pitch_19 : decode Y_Model_pitch.2.1 19 = .ok (.iload_n 1, 1) := by decide +kernel
theorem k_Model_pitch_20 : decode Y_Model_pitch.2.1 20 = .ok (.iadd, 1) := by decide +kernel
theorem k_Model_pitch_21 : decode Y_Model_pitch.2.1 21 = .ok (.iload_n 2, 1) := by decide +kernel
theorem k_Model_pitch_22 : decode Y_Model_pitch.2.1 22 = .ok (.iconst 0, 1) := by decide +kernel
theorem k_Model_pitch_23 : decode Y_Model_pitch.2.1 23 = .ok (.bipush 9, 2) := by decide +kernel
theorem k_Model_pitch_25 : decode Y_Model_pitch.2.1 25 = .ok (.invokevirtual 144, 3) := by decide +kernel
theorem k_Model_pitch_28 : decode Y_Model_pitch.2.1 28 = .ok (.ireturn, 1) := by decide +kernel
theorem k_Model_enter_0 : decode Y_Model_enter.2.1 0 = .ok (.aload_n 0, 1) := by decide +kernel
theorem k_Model_enter_1 : decode Y_Model_enter.2.1 1 = .ok (.iload_n 1, 1) := by decide +kernel
theorem k_Model_enter_2 : decode Y_Model_enter.2.1 2 = .ok (.invokevirtual 141, 3) := by decide +kernel
theorem k_Model_enter_5 : decode Y_Model_enter.2.1 5 = .ok (.ifCond .eq 11, 3) := by decide +kernel
theorem k_Model_enter_8 : decode Y_Model_enter.2.1 8 = .ok (.aload_n 0, 1) := by decide +kernel
theorem k_Model_enter_9 : decode Y_Model_enter.2.1 9 = .ok (.iconst (-1), 1) := by decide +kernel
theorem k_Model_enter_10 : decode Y_Model_enter.2.1 10 = .ok (.invokevirtual 49, 3) := by decide +kernel
theorem k_Model_enter_13 : decode Y_Model_enter.2.1 13 = .ok (.goto 15, 3) := by decide +kernel
theorem k_Model_enter_16 : decode Y_Model_enter.2.1 16 = .ok (.aload_n 0, 1) := by decide +kernel
theorem k_Model_enter_17 : decode Y_Model_enter.2.1 17 = .ok (.bipush 60, 2) := by decide +kernel
theorem k_Model_enter_19 : decode Y_Model_enter.2.1 19 = .ok (.iload_n 1, 1) := by decide +kernel
theorem k_Model_enter_20 : decode Y_Model_enter.2.1 20 = .ok (.iadd, 1) := by decide +kernel
theorem k_Model_enter_21 : decode Y_Model_enter.2.1 21 = .ok (.iload_n 2, 1) := by decide +kernel
theorem k_Model_enter_22 : decode Y_Model_enter.2.1 22 = .ok (.iconst 0, 1) := by decide +kernel
theorem k_Model_enter_23 : decode Y_Model_enter.2.1 23 = .ok (.bipush 60, 2) := by decide +kernel
theorem k_Model_enter_25 : decode Y_Model_enter.2.1 25 = .ok (.invokevirtual 144, 3) := by decide +kernel
theorem k_Model_enter_28 : decode Y_Model_enter.2.1 28 = .ok (.ireturn, 1) := by decide +kernel
theorem k_Model_rounds_0 : decode Y_Model_rounds.2.1 0 = .ok (.aload_n 0, 1) := by decide +kernel
theorem k_Model_rounds_1 : decode Y_Model_rounds.2.1 1 = .ok (.iconst 2, 1) := by decide +kernel
theorem k_Model_rounds_2 : decode Y_Model_rounds.2.1 2 = .ok (.iload_n 1, 1) := by decide +kernel
theorem k_Model_rounds_3 : decode Y_Model_rounds.2.1 3 = .ok (.iconst 1, 1) := by decide +kernel
theorem k_Model_rounds_4 : decode Y_Model_rounds.2.1 4 = .ok (.iconst 4, 1) := by decide +kernel
theorem k_Model_rounds_5 : decode Y_Model_rounds.2.1 5 = .ok (.invokevirtual 144, 3) := by decide +kernel
theorem k_Model_rounds_8 : decode Y_Model_rounds.2.1 8 = .ok (.ireturn, 1) := by decide +kernel
theorem k_Model_step_0 : decode Y_Model_step.2.1 0 = .ok (.aload_n 0, 1) := by decide +kernel
theorem k_Model_step_1 : decode Y_Model_step.2.1 1 = .ok (.iconst 3, 1) := by decide +kernel
theorem k_Model_step_2 : decode Y_Model_step.2.1 2 = .ok (.iload_n 1, 1) := by decide +kernel
theorem k_Model_step_3 : decode Y_Model_step.2.1 3 = .ok (.iconst 0, 1) := by decide +kernel
theorem k_Model_step_4 : decode Y_Model_step.2.1 4 = .ok (.iconst 2, 1) := by decide +kernel
theorem k_Model_step_5 : decode Y_Model_step.2.1 5 = .ok (.invokevirtual 144, 3) := by decide +kernel
theorem k_Model_step_8 : decode Y_Model_step.2.1 8 = .ok (.ireturn, 1) := by decide +kernel
theorem k_Model_law_0 : decode Y_Model_law.2.1 0 = .ok (.aload_n 0, 1) := by decide +kernel
theorem k_Model_law_1 : decode Y_Model_law.2.1 1 = .ok (.iconst 4, 1) := by decide +kernel
theorem k_Model_law_2 : decode Y_Model_law.2.1 2 = .ok (.iload_n 1, 1) := by decide +kernel
theorem k_Model_law_3 : decode Y_Model_law.2.1 3 = .ok (.iconst 0, 1) := by decide +kernel
theorem k_Model_law_4 : decode Y_Model_law.2.1 4 = .ok (.bipush 127, 2) := by decide +kernel
theorem k_Model_law_6 : decode Y_Model_law.2.1 6 = .ok (.invokevirtual 144, 3) := by decide +kernel
theorem k_Model_law_9 : decode Y_Model_law.2.1 9 = .ok (.ireturn, 1) := by decide +kernel
theorem k_Model_isWrong_0 : decode Y_Model_isWrong.2.1 0 = .ok (.iload_n 0, 1) := by decide +kernel
theorem k_Model_isWrong_1 : decode Y_Model_isWrong.2.1 1 = .ok (.iload_n 1, 1) := by decide +kernel
theorem k_Model_isWrong_2 : decode Y_Model_isWrong.2.1 2 = .ok (.if_icmp .ge 8, 3) := by decide +kernel
theorem k_Model_isWrong_5 : decode Y_Model_isWrong.2.1 5 = .ok (.bipush (-4), 2) := by decide +kernel
theorem k_Model_isWrong_7 : decode Y_Model_isWrong.2.1 7 = .ok (.goto 14, 3) := by decide +kernel
theorem k_Model_isWrong_10 : decode Y_Model_isWrong.2.1 10 = .ok (.iload_n 0, 1) := by decide +kernel
theorem k_Model_isWrong_11 : decode Y_Model_isWrong.2.1 11 = .ok (.iload_n 2, 1) := by decide +kernel
theorem k_Model_isWrong_12 : decode Y_Model_isWrong.2.1 12 = .ok (.if_icmp .le 8, 3) := by decide +kernel
theorem k_Model_isWrong_15 : decode Y_Model_isWrong.2.1 15 = .ok (.bipush (-6), 2) := by decide +kernel
theorem k_Model_isWrong_17 : decode Y_Model_isWrong.2.1 17 = .ok (.goto 4, 3) := by decide +kernel
theorem k_Model_isWrong_20 : decode Y_Model_isWrong.2.1 20 = .ok (.iconst 0, 1) := by decide +kernel
theorem k_Model_isWrong_21 : decode Y_Model_isWrong.2.1 21 = .ok (.ireturn, 1) := by decide +kernel
theorem k_Model_sound_0 : decode Y_Model_sound.2.1 0 = .ok (.aload_n 0, 1) := by decide +kernel
theorem k_Model_sound_1 : decode Y_Model_sound.2.1 1 = .ok (.iload_n 1, 1) := by decide +kernel
theorem k_Model_sound_2 : decode Y_Model_sound.2.1 2 = .ok (.invokevirtual 141, 3) := by decide +kernel
theorem k_Model_sound_5 : decode Y_Model_sound.2.1 5 = .ok (.ifCond .eq 12, 3) := by decide +kernel
theorem k_Model_sound_8 : decode Y_Model_sound.2.1 8 = .ok (.ldc 147, 2) := by decide +kernel
theorem k_Model_sound_10 : decode Y_Model_sound.2.1 10 = .ok (.aload_n 0, 1) := by decide +kernel
theorem k_Model_sound_11 : decode Y_Model_sound.2.1 11 = .ok (.iconst (-1), 1) := by decide +kernel
theorem k_Model_sound_12 : decode Y_Model_sound.2.1 12 = .ok (.invokevirtual 49, 3) := by decide +kernel
theorem k_Model_sound_15 : decode Y_Model_sound.2.1 15 = .ok (.isub, 1) := by decide +kernel
theorem k_Model_sound_16 : decode Y_Model_sound.2.1 16 = .ok (.ireturn, 1) := by decide +kernel
theorem k_Model_sound_17 : decode Y_Model_sound.2.1 17 = .ok (.iload_n 2, 1) := by decide +kernel
theorem k_Model_sound_18 : decode Y_Model_sound.2.1 18 = .ok (.iconst 0, 1) := by decide +kernel
theorem k_Model_sound_19 : decode Y_Model_sound.2.1 19 = .ok (.sipush 400, 3) := by decide +kernel
theorem k_Model_sound_22 : decode Y_Model_sound.2.1 22 = .ok (.invokestatic 148, 3) := by decide +kernel
theorem k_Model_sound_25 : decode Y_Model_sound.2.1 25 = .ok (.ifCond .eq 19, 3) := by decide +kernel
theorem k_Model_sound_28 : decode Y_Model_sound.2.1 28 = .ok (.ldc 147, 2) := by decide +kernel
theorem k_Model_sound_30 : decode Y_Model_sound.2.1 30 = .ok (.aload_n 0, 1) := by decide +kernel
theorem k_Model_sound_31 : decode Y_Model_sound.2.1 31 = .ok (.iload_n 2, 1) := by decide +kernel
theorem k_Model_sound_32 : decode Y_Model_sound.2.1 32 = .ok (.iconst 0, 1) := by decide +kernel
theorem k_Model_sound_33 : decode Y_Model_sound.2.1 33 = .ok (.sipush 400, 3) := by decide +kernel
theorem k_Model_sound_36 : decode Y_Model_sound.2.1 36 = .ok (.invokestatic 148, 3) := by decide +kernel
theorem k_Model_sound_39 : decode Y_Model_sound.2.1 39 = .ok (.invokevirtual 49, 3) := by decide +kernel
theorem k_Model_sound_42 : decode Y_Model_sound.2.1 42 = .ok (.isub, 1) := by decide +kernel
theorem k_Model_sound_43 : decode Y_Model_sound.2.1 43 = .ok (.ireturn, 1) := by decide +kernel
theorem k_Model_sound_44 : decode Y_Model_sound.2.1 44 = .ok (.aload_n 0, 1) := by decide +kernel
theorem k_Model_sound_45 : decode Y_Model_sound.2.1 45 = .ok (.iload_n 1, 1) := by decide +kernel
theorem k_Model_sound_46 : decode Y_Model_sound.2.1 46 = .ok (.iload_n 2, 1) := by decide +kernel
theorem k_Model_sound_47 : decode Y_Model_sound.2.1 47 = .ok (.invokevirtual 125, 3) := by decide +kernel
theorem k_Model_sound_50 : decode Y_Model_sound.2.1 50 = .ok (.ireturn, 1) := by decide +kernel
theorem k_Model_ill_0 : decode Y_Model_ill.2.1 0 = .ok (.iload_n 1, 1) := by decide +kernel
theorem k_Model_ill_1 : decode Y_Model_ill.2.1 1 = .ok (.iconst 0, 1) := by decide +kernel
theorem k_Model_ill_2 : decode Y_Model_ill.2.1 2 = .ok (.sipush 400, 3) := by decide +kernel
theorem k_Model_ill_5 : decode Y_Model_ill.2.1 5 = .ok (.invokestatic 148, 3) := by decide +kernel
theorem k_Model_ill_8 : decode Y_Model_ill.2.1 8 = .ok (.ifCond .eq 18, 3) := by decide +kernel
theorem k_Model_ill_11 : decode Y_Model_ill.2.1 11 = .ok (.aload_n 0, 1) := by decide +kernel
theorem k_Model_ill_12 : decode Y_Model_ill.2.1 12 = .ok (.iload_n 1, 1) := by decide +kernel
theorem k_Model_ill_13 : decode Y_Model_ill.2.1 13 = .ok (.iconst 0, 1) := by decide +kernel
theorem k_Model_ill_14 : decode Y_Model_ill.2.1 14 = .ok (.sipush 400, 3) := by decide +kernel
theorem k_Model_ill_17 : decode Y_Model_ill.2.1 17 = .ok (.invokestatic 148, 3) := by decide +kernel
theorem k_Model_ill_20 : decode Y_Model_ill.2.1 20 = .ok (.invokevirtual 49, 3) := by decide +kernel
theorem k_Model_ill_23 : decode Y_Model_ill.2.1 23 = .ok (.goto 10, 3) := by decide +kernel
theorem k_Model_ill_26 : decode Y_Model_ill.2.1 26 = .ok (.aload_n 0, 1) := by decide +kernel
theorem k_Model_ill_27 : decode Y_Model_ill.2.1 27 = .ok (.iload_n 1, 1) := by decide +kernel
theorem k_Model_ill_28 : decode Y_Model_ill.2.1 28 = .ok (.bipush (-9), 2) := by decide +kernel
theorem k_Model_ill_30 : decode Y_Model_ill.2.1 30 = .ok (.invokevirtual 134, 3) := by decide +kernel
theorem k_Model_ill_33 : decode Y_Model_ill.2.1 33 = .ok (.ireturn, 1) := by decide +kernel
theorem k_Model_first_0 : decode Y_Model_first.2.1 0 = .ok (.iload_n 1, 1) := by decide +kernel
theorem k_Model_first_1 : decode Y_Model_first.2.1 1 = .ok (.ifCond .lt 8, 3) := by decide +kernel
theorem k_Model_first_4 : decode Y_Model_first.2.1 4 = .ok (.iload_n 1, 1) := by decide +kernel
theorem k_Model_first_5 : decode Y_Model_first.2.1 5 = .ok (.iconst 1, 1) := by decide +kernel
theorem k_Model_first_6 : decode Y_Model_first.2.1 6 = .ok (.if_icmp .le 10, 3) := by decide +kernel
theorem k_Model_first_9 : decode Y_Model_first.2.1 9 = .ok (.aload_n 0, 1) := by decide +kernel
theorem k_Model_first_10 : decode Y_Model_first.2.1 10 = .ok (.bipush (-2), 2) := by decide +kernel
theorem k_Model_first_12 : decode Y_Model_first.2.1 12 = .ok (.invokevirtual 49, 3) := by decide +kernel
theorem k_Model_first_15 : decode Y_Model_first.2.1 15 = .ok (.ireturn, 1) := by decide +kernel
theorem k_Model_first_16 : decode Y_Model_first.2.1 16 = .ok (.aload_n 0, 1) := by decide +kernel
theorem k_Model_first_17 : decode Y_Model_first.2.1 17 = .ok (.invokevirtual 131, 3) := by decide +kernel
theorem k_Model_first_20 : decode Y_Model_first.2.1 20 = .ok (.istore_n 2, 1) := by decide +kernel
theorem k_Model_first_21 : decode Y_Model_first.2.1 21 = .ok (.iconst 0, 1) := by decide +kernel
theorem k_Model_first_22 : decode Y_Model_first.2.1 22 = .ok (.istore_n 3, 1) := by decide +kernel
theorem k_Model_first_23 : decode Y_Model_first.2.1 23 = .ok (.iload_n 3, 1) := by decide +kernel
theorem k_Model_first_24 : decode Y_Model_first.2.1 24 = .ok (.iload_n 2, 1) := by decide +kernel
theorem k_Model_first_25 : decode Y_Model_first.2.1 25 = .ok (.if_icmp .ge 32, 3) := by decide +kernel
theorem k_Model_first_28 : decode Y_Model_first.2.1 28 = .ok (.aload_n 0, 1) := by decide +kernel
theorem k_Model_first_29 : decode Y_Model_first.2.1 29 = .ok (.iload_n 3, 1) := by decide +kernel
theorem k_Model_first_30 : decode Y_Model_first.2.1 30 = .ok (.bipush (-9), 2) := by decide +kernel
theorem k_Model_first_32 : decode Y_Model_first.2.1 32 = .ok (.invokevirtual 134, 3) := by decide +kernel
theorem k_Model_first_35 : decode Y_Model_first.2.1 35 = .ok (.ifCond .le 16, 3) := by decide +kernel
theorem k_Model_first_38 : decode Y_Model_first.2.1 38 = .ok (.iload_n 1, 1) := by decide +kernel
theorem k_Model_first_39 : decode Y_Model_first.2.1 39 = .ok (.ifCond .ne 7, 3) := by decide +kernel
theorem k_Model_first_42 : decode Y_Model_first.2.1 42 = .ok (.iload_n 3, 1) := by decide +kernel
theorem k_Model_first_43 : decode Y_Model_first.2.1 43 = .ok (.goto 7, 3) := by decide +kernel
theorem k_Model_first_46 : decode Y_Model_first.2.1 46 = .ok (.aload_n 0, 1) := by decide +kernel
theorem k_Model_first_47 : decode Y_Model_first.2.1 47 = .ok (.getfield 122, 3) := by decide +kernel
theorem k_Model_first_50 : decode Y_Model_first.2.1 50 = .ok (.ireturn, 1) := by decide +kernel
theorem k_Model_first_51 : decode Y_Model_first.2.1 51 = .ok (.iinc 3 1, 3) := by decide +kernel
theorem k_Model_first_54 : decode Y_Model_first.2.1 54 = .ok (.goto (-31), 3) := by decide +kernel
theorem k_Model_first_57 : decode Y_Model_first.2.1 57 = .ok (.bipush (-9), 2) := by decide +kernel
theorem k_Model_first_59 : decode Y_Model_first.2.1 59 = .ok (.ireturn, 1) := by decide +kernel
theorem k_Model_allIll_0 : decode Y_Model_allIll.2.1 0 = .ok (.aload_n 0, 1) := by decide +kernel
theorem k_Model_allIll_1 : decode Y_Model_allIll.2.1 1 = .ok (.bipush (-9), 2) := by decide +kernel
theorem k_Model_allIll_3 : decode Y_Model_allIll.2.1 3 = .ok (.invokevirtual 152, 3) := by decide +kernel
theorem k_Model_allIll_6 : decode Y_Model_allIll.2.1 6 = .ok (.ireturn, 1) := by decide +kernel
theorem k_Model_fitsAll_0 : decode Y_Model_fitsAll.2.1 0 = .ok (.iload_n 3, 1) := by decide +kernel
theorem k_Model_fitsAll_1 : decode Y_Model_fitsAll.2.1 1 = .ok (.aload_n 0, 1) := by decide +kernel
theorem k_Model_fitsAll_2 : decode Y_Model_fitsAll.2.1 2 = .ok (.getfield 13, 3) := by decide +kernel
theorem k_Model_fitsAll_5 : decode Y_Model_fitsAll.2.1 5 = .ok (.iconst 2, 1) := by decide +kernel
theorem k_Model_fitsAll_6 : decode Y_Model_fitsAll.2.1 6 = .ok (.iaload, 1) := by decide +kernel
theorem k_Model_fitsAll_7 : decode Y_Model_fitsAll.2.1 7 = .ok (.aload_n 0, 1) := by decide +kernel
theorem k_Model_fitsAll_8 : decode Y_Model_fitsAll.2.1 8 = .ok (.iload_n 1, 1) := by decide +kernel
theorem k_Model_fitsAll_9 : decode Y_Model_fitsAll.2.1 9 = .ok (.invokevirtual 100, 3) := by decide +kernel
theorem k_Model_fitsAll_12 : decode Y_Model_fitsAll.2.1 12 = .ok (.imul, 1) := by decide +kernel
theorem k_Model_fitsAll_13 : decode Y_Model_fitsAll.2.1 13 = .ok (.iadd, 1) := by decide +kernel
theorem k_Model_fitsAll_14 : decode Y_Model_fitsAll.2.1 14 = .ok (.istore 4, 2) := by decide +kernel
theorem k_Model_fitsAll_16 : decode Y_Model_fitsAll.2.1 16 = .ok (.iload_n 3, 1) := by decide +kernel
theorem k_Model_fitsAll_17 : decode Y_Model_fitsAll.2.1 17 = .ok (.istore 5, 2) := by decide +kernel
theorem k_Model_fitsAll_19 : decode Y_Model_fitsAll.2.1 19 = .ok (.iload 5, 2) := by decide +kernel
theorem k_Model_fitsAll_21 : decode Y_Model_fitsAll.2.1 21 = .ok (.iload 4, 2) := by decide +kernel
theorem k_Model_fitsAll_23 : decode Y_Model_fitsAll.2.1 23 = .ok (.if_icmp .ge 59, 3) := by decide +kernel
theorem k_Model_fitsAll_26 : decode Y_Model_fitsAll.2.1 26 = .ok (.aload_n 0, 1) := by decide +kernel
theorem k_Model_fitsAll_27 : decode Y_Model_fitsAll.2.1 27 = .ok (.iload_n 1, 1) := by decide +kernel
theorem k_Model_fitsAll_28 : decode Y_Model_fitsAll.2.1 28 = .ok (.iload_n 3, 1) := by decide +kernel
theorem k_Model_fitsAll_29 : decode Y_Model_fitsAll.2.1 29 = .ok (.iload_n 2, 1) := by decide +kernel
theorem k_Model_fitsAll_30 : decode Y_Model_fitsAll.2.1 30 = .ok (.iload 5, 2) := by decide +kernel
theorem k_Model_fitsAll_32 : decode Y_Model_fitsAll.2.1 32 = .ok (.invokevirtual 107, 3) := by decide +kernel
theorem k_Model_fitsAll_35 : decode Y_Model_fitsAll.2.1 35 = .ok (.istore 6, 2) := by decide +kernel
theorem k_Model_fitsAll_37 : decode Y_Model_fitsAll.2.1 37 = .ok (.iconst 0, 1) := by decide +kernel
theorem k_Model_fitsAll_38 : decode Y_Model_fitsAll.2.1 38 = .ok (.istore 7, 2) := by decide +kernel
theorem k_Model_fitsAll_40 : decode Y_Model_fitsAll.2.1 40 = .ok (.iload 7, 2) := by decide +kernel
theorem k_Model_fitsAll_42 : decode Y_Model_fitsAll.2.1 42 = .ok (.aload_n 0, 1) := by decide +kernel
theorem k_Model_fitsAll_43 : decode Y_Model_fitsAll.2.1 43 = .ok (.getfield 13, 3) := by decide +kernel
theorem k_Model_fitsAll_46 : decode Y_Model_fitsAll.2.1 46 = .ok (.iconst 1, 1) := by decide +kernel
theorem k_Model_fitsAll_47 : decode Y_Model_fitsAll.2.1 47 = .ok (.iaload, 1) := by decide +kernel
theorem k_Model_fitsAll_48 : decode Y_Model_fitsAll.2.1 48 = .ok (.if_icmp .ge 28, 3) := by decide +kernel
theorem k_Model_fitsAll_51 : decode Y_Model_fitsAll.2.1 51 = .ok (.aload_n 0, 1) := by decide +kernel
theorem k_Model_fitsAll_52 : decode Y_Model_fitsAll.2.1 52 = .ok (.iload 6, 2) := by decide +kernel
theorem k_Model_fitsAll_54 : decode Y_Model_fitsAll.2.1 54 = .ok (.aload_n 0, 1) := by decide +kernel
theorem k_Model_fitsAll_55 : decode Y_Model_fitsAll.2.1 55 = .ok (.iload 7, 2) := by decide +kernel
theorem k_Model_fitsAll_57 : decode Y_Model_fitsAll.2.1 57 = .ok (.iload 5, 2) := by decide +kernel
theorem k_Model_fitsAll_59 : decode Y_Model_fitsAll.2.1 59 = .ok (.invokevirtual 125, 3) := by decide +kernel
theorem k_Model_fitsAll_62 : decode Y_Model_fitsAll.2.1 62 = .ok (.invokevirtual 128, 3) := by decide +kernel
theorem k_Model_fitsAll_65 : decode Y_Model_fitsAll.2.1 65 = .ok (.ifCond .ne 5, 3) := by decide +kernel
theorem k_Model_fitsAll_68 : decode Y_Model_fitsAll.2.1 68 = .ok (.iconst 0, 1) := by decide +kernel
theorem k_Model_fitsAll_69 : decode Y_Model_fitsAll.2.1 69 = .ok (.ireturn, 1) := by decide +kernel
theorem k_Model_fitsAll_70 : decode Y_Model_fitsAll.2.1 70 = .ok (.iinc 7 1, 3) := by decide +kernel
theorem k_Model_fitsAll_73 : decode Y_Model_fitsAll.2.1 73 = .ok (.goto (-33), 3) := by decide +kernel
theorem k_Model_fitsAll_76 : decode Y_Model_fitsAll.2.1 76 = .ok (.iinc 5 1, 3) := by decide +kernel
theorem k_Model_fitsAll_79 : decode Y_Model_fitsAll.2.1 79 = .ok (.goto (-60), 3) := by decide +kernel
theorem k_Model_fitsAll_82 : decode Y_Model_fitsAll.2.1 82 = .ok (.iconst 1, 1) := by decide +kernel
theorem k_Model_fitsAll_83 : decode Y_Model_fitsAll.2.1 83 = .ok (.ireturn, 1) := by decide +kernel
theorem k_Model_entries_0 : decode Y_Model_entries.2.1 0 = .ok (.iload_n 1, 1) := by decide +kernel
theorem k_Model_entries_1 : decode Y_Model_entries.2.1 1 = .ok (.ifCond .lt 8, 3) := by decide +kernel
theorem k_Model_entries_4 : decode Y_Model_entries.2.1 4 = .ok (.iload_n 1, 1) := by decide +kernel
theorem k_Model_entries_5 : decode Y_Model_entries.2.1 5 = .ok (.iconst 5, 1) := by decide +kernel
theorem k_Model_entries_6 : decode Y_Model_entries.2.1 6 = .ok (.if_icmp .le 10, 3) := by decide +kernel
theorem k_Model_entries_9 : decode Y_Model_entries.2.1 9 = .ok (.aload_n 0, 1) := by decide +kernel
theorem k_Model_entries_10 : decode Y_Model_entries.2.1 10 = .ok (.bipush (-2), 2) := by decide +kernel
theorem k_Model_entries_12 : decode Y_Model_entries.2.1 12 = .ok (.invokevirtual 49, 3) := by decide +kernel
theorem k_Model_entries_15 : decode Y_Model_entries.2.1 15 = .ok (.ireturn, 1) := by decide +kernel
theorem k_Model_entries_16 : decode Y_Model_entries.2.1 16 = .ok (.iload_n 2, 1) := by decide +kernel
theorem k_Model_entries_17 : decode Y_Model_entries.2.1 17 = .ok (.iconst 0, 1) := by decide +kernel
theorem k_Model_entries_18 : decode Y_Model_entries.2.1 18 = .ok (.bipush 9, 2) := by decide +kernel
theorem k_Model_entries_20 : decode Y_Model_entries.2.1 20 = .ok (.invokestatic 148, 3) := by decide +kernel
theorem k_Model_entries_23 : decode Y_Model_entries.2.1 23 = .ok (.ifCond .eq 15, 3) := by decide +kernel
theorem k_Model_entries_26 : decode Y_Model_entries.2.1 26 = .ok (.aload_n 0, 1) := by decide +kernel
theorem k_Model_entries_27 : decode Y_Model_entries.2.1 27 = .ok (.iload_n 2, 1) := by decide +kernel
theorem k_Model_entries_28 : decode Y_Model_entries.2.1 28 = .ok (.iconst 0, 1) := by decide +kernel
theorem k_Model_entries_29 : decode Y_Model_entries.2.1 29 = .ok (.bipush 9, 2) := by decide +kernel
theorem k_Model_entries_31 : decode Y_Model_entries.2.1 31 = .ok (.invokestatic 148, 3) := by decide +kernel
theorem k_Model_entries_34 : decode Y_Model_entries.2.1 34 = .ok (.invokevirtual 49, 3) := by decide +kernel
theorem k_Model_entries_37 : decode Y_Model_entries.2.1 37 = .ok (.ireturn, 1) := by decide +kernel
theorem k_Model_entries_38 : decode Y_Model_entries.2.1 38 = .ok (.iconst 0, 1) := by decide +kernel
theorem k_Model_entries_39 : decode Y_Model_entries.2.1 39 = .ok (.istore_n 3, 1) := by decide +kernel
theorem k_Model_entries_40 : decode Y_Model_entries.2.1 40 = .ok (.iconst 0, 1) := by decide +kernel
theorem k_Model_entries_41 : decode Y_Model_entries.2.1 41 = .ok (.istore 4, 2) := by decide +kernel
theorem k_Model_entries_43 : decode Y_Model_entries.2.1 43 = .ok (.iload 4, 2) := by decide +kernel
theorem k_Model_entries_45 : decode Y_Model_entries.2.1 45 = .ok (.bipush 30, 2) := by decide +kernel
theorem k_Model_entries_47 : decode Y_Model_entries.2.1 47 = .ok (.if_icmp .gt 31, 3) := by decide +kernel
theorem k_Model_entries_50 : decode Y_Model_entries.2.1 50 = .ok (.iload_n 3, 1) := by decide +kernel
theorem k_Model_entries_51 : decode Y_Model_entries.2.1 51 = .ok (.aload_n 0, 1) := by decide +kernel
theorem k_Model_entries_52 : decode Y_Model_entries.2.1 52 = .ok (.iload_n 1, 1) := by decide +kernel
theorem k_Model_entries_53 : decode Y_Model_entries.2.1 53 = .ok (.iload_n 2, 1) := by decide +kernel
theorem k_Model_entries_54 : decode Y_Model_entries.2.1 54 = .ok (.iload 4, 2) := by decide +kernel
theorem k_Model_entries_56 : decode Y_Model_entries.2.1 56 = .ok (.invokevirtual 155, 3) := by decide +kernel
theorem k_Model_entries_59 : decode Y_Model_entries.2.1 59 = .ok (.ifCond .eq 10, 3) := by decide +kernel
theorem k_Model_entries_62 : decode Y_Model_entries.2.1 62 = .ok (.iconst 1, 1) := by decide +kernel
theorem k_Model_entries_63 : decode Y_Model_entries.2.1 63 = .ok (.iload 4, 2) := by decide +kernel
theorem k_Model_entries_65 : decode Y_Model_entries.2.1 65 = .ok (.ishl, 1) := by decide +kernel
theorem k_Model_entries_66 : decode Y_Model_entries.2.1 66 = .ok (.goto 4, 3) := by decide +kernel
theorem k_Model_entries_69 : decode Y_Model_entries.2.1 69 = .ok (.iconst 0, 1) := by decide +kernel
theorem k_Model_entries_70 : decode Y_Model_entries.2.1 70 = .ok (.ior, 1) := by decide +kernel
theorem k_Model_entries_71 : decode Y_Model_entries.2.1 71 = .ok (.istore_n 3, 1) := by decide +kernel
theorem k_Model_entries_72 : decode Y_Model_entries.2.1 72 = .ok (.iinc 4 1, 3) := by decide +kernel
theorem k_Model_entries_75 : decode Y_Model_entries.2.1 75 = .ok (.goto (-32), 3) := by decide +kernel
theorem k_Model_entries_78 : decode Y_Model_entries.2.1 78 = .ok (.iload_n 3, 1) := by decide +kernel
theorem k_Model_entries_79 : decode Y_Model_entries.2.1 79 = .ok (.ireturn, 1) := by decide +kernel
theorem k_Model_added_0 : decode Y_Model_added.2.1 0 = .ok (.aload_n 0, 1) := by decide +kernel
theorem k_Model_added_1 : decode Y_Model_added.2.1 1 = .ok (.getfield 13, 3) := by decide +kernel
theorem k_Model_added_4 : decode Y_Model_added.2.1 4 = .ok (.iconst 0, 1) := by decide +kernel
theorem k_Model_added_5 : decode Y_Model_added.2.1 5 = .ok (.iaload, 1) := by decide +kernel
theorem k_Model_added_6 : decode Y_Model_added.2.1 6 = .ok (.istore_n 1, 1) := by decide +kernel
theorem k_Model_added_7 : decode Y_Model_added.2.1 7 = .ok (.iconst 0, 1) := by decide +kernel
theorem k_Model_added_8 : decode Y_Model_added.2.1 8 = .ok (.istore_n 2, 1) := by decide +kernel
theorem k_Model_added_9 : decode Y_Model_added.2.1 9 = .ok (.aload_n 0, 1) := by decide +kernel
theorem k_Model_added_10 : decode Y_Model_added.2.1 10 = .ok (.getfield 13, 3) := by decide +kernel
theorem k_Model_added_13 : decode Y_Model_added.2.1 13 = .ok (.iconst 0, 1) := by decide +kernel
theorem k_Model_added_14 : decode Y_Model_added.2.1 14 = .ok (.iload_n 1, 1) := by decide +kernel
theorem k_Model_added_15 : decode Y_Model_added.2.1 15 = .ok (.iconst 1, 1) := by decide +kernel
theorem k_Model_added_16 : decode Y_Model_added.2.1 16 = .ok (.iadd, 1) := by decide +kernel
theorem k_Model_added_17 : decode Y_Model_added.2.1 17 = .ok (.iastore, 1) := by decide +kernel
theorem k_Model_added_18 : decode Y_Model_added.2.1 18 = .ok (.aload_n 0, 1) := by decide +kernel
theorem k_Model_added_19 : decode Y_Model_added.2.1 19 = .ok (.getfield 13, 3) := by decide +kernel
theorem k_Model_added_22 : decode Y_Model_added.2.1 22 = .ok (.bipush 10, 2) := by decide +kernel
theorem k_Model_added_24 : decode Y_Model_added.2.1 24 = .ok (.iload_n 1, 1) := by decide +kernel
theorem k_Model_added_25 : decode Y_Model_added.2.1 25 = .ok (.iadd, 1) := by decide +kernel
theorem k_Model_added_26 : decode Y_Model_added.2.1 26 = .ok (.iaload, 1) := by decide +kernel
theorem k_Model_added_27 : decode Y_Model_added.2.1 27 = .ok (.istore_n 3, 1) := by decide +kernel
theorem k_Model_added_28 : decode Y_Model_added.2.1 28 = .ok (.aload_n 0, 1) := by decide +kernel
theorem k_Model_added_29 : decode Y_Model_added.2.1 29 = .ok (.getfield 13, 3) := by decide +kernel
theorem k_Model_added_32 : decode Y_Model_added.2.1 32 = .ok (.bipush 30, 2) := by decide +kernel
theorem k_Model_added_34 : decode Y_Model_added.2.1 34 = .ok (.iload_n 1, 1) := by decide +kernel
theorem k_Model_added_35 : decode Y_Model_added.2.1 35 = .ok (.iadd, 1) := by decide +kernel
theorem k_Model_added_36 : decode Y_Model_added.2.1 36 = .ok (.iaload, 1) := by decide +kernel
theorem k_Model_added_37 : decode Y_Model_added.2.1 37 = .ok (.istore 4, 2) := by decide +kernel
theorem k_Model_added_39 : decode Y_Model_added.2.1 39 = .ok (.aload_n 0, 1) := by decide +kernel
theorem k_Model_added_40 : decode Y_Model_added.2.1 40 = .ok (.getfield 13, 3) := by decide +kernel
theorem k_Model_added_43 : decode Y_Model_added.2.1 43 = .ok (.bipush 30, 2) := by decide +kernel
theorem k_Model_added_45 : decode Y_Model_added.2.1 45 = .ok (.iload_n 1, 1) := by decide +kernel
theorem k_Model_added_46 : decode Y_Model_added.2.1 46 = .ok (.iadd, 1) := by decide +kernel
theorem k_Model_added_47 : decode Y_Model_added.2.1 47 = .ok (.iconst 1, 1) := by decide +kernel
theorem k_Model_added_48 : decode Y_Model_added.2.1 48 = .ok (.iastore, 1) := by decide +kernel
theorem k_Model_added_49 : decode Y_Model_added.2.1 49 = .ok (.iconst 0, 1) := by decide +kernel
theorem k_Model_added_50 : decode Y_Model_added.2.1 50 = .ok (.istore 5, 2) := by decide +kernel
theorem k_Model_added_52 : decode Y_Model_added.2.1 52 = .ok (.iload 5, 2) := by decide +kernel
theorem k_Model_added_54 : decode Y_Model_added.2.1 54 = .ok (.bipush 10, 2) := by decide +kernel
theorem k_Model_added_56 : decode Y_Model_added.2.1 56 = .ok (.if_icmp .ge 38, 3) := by decide +kernel
theorem k_Model_added_59 : decode Y_Model_added.2.1 59 = .ok (.aload_n 0, 1) := by decide +kernel
theorem k_Model_added_60 : decode Y_Model_added.2.1 60 = .ok (.getfield 13, 3) := by decide +kernel
theorem k_Model_added_63 : decode Y_Model_added.2.1 63 = .ok (.bipush 10, 2) := by decide +kernel
theorem k_Model_added_65 : decode Y_Model_added.2.1 65 = .ok (.iload_n 1, 1) := by decide +kernel
theorem k_Model_added_66 : decode Y_Model_added.2.1 66 = .ok (.iadd, 1) := by decide +kernel
theorem k_Model_added_67 : decode Y_Model_added.2.1 67 = .ok (.iload 5, 2) := by decide +kernel
theorem k_Model_added_69 : decode Y_Model_added.2.1 69 = .ok (.iastore, 1) := by decide +kernel
theorem k_Model_added_70 : decode Y_Model_added.2.1 70 = .ok (.iload_n 2, 1) := by decide +kernel
theorem k_Model_added_71 : decode Y_Model_added.2.1 71 = .ok (.aload_n 0, 1) := by decide +kernel
theorem k_Model_added_72 : decode Y_Model_added.2.1 72 = .ok (.invokevirtual 159, 3) := by decide +kernel
theorem k_Model_added_75 : decode Y_Model_added.2.1 75 = .ok (.ifCond .eq 10, 3) := by decide +kernel
theorem k_Model_added_78 : decode Y_Model_added.2.1 78 = .ok (.iconst 1, 1) := by decide +kernel
theorem k_Model_added_79 : decode Y_Model_added.2.1 79 = .ok (.iload 5, 2) := by decide +kernel
theorem k_Model_added_81 : decode Y_Model_added.2.1 81 = .ok (.ishl, 1) := by decide +kernel
theorem k_Model_added_82 : decode Y_Model_added.2.1 82 = .ok (.goto 4, 3) := by decide +kernel
theorem k_Model_added_85 : decode Y_Model_added.2.1 85 = .ok (.iconst 0, 1) := by decide +kernel
theorem k_Model_added_86 : decode Y_Model_added.2.1 86 = .ok (.ior, 1) := by decide +kernel
theorem k_Model_added_87 : decode Y_Model_added.2.1 87 = .ok (.istore_n 2, 1) := by decide +kernel
theorem k_Model_added_88 : decode Y_Model_added.2.1 88 = .ok (.iinc 5 1, 3) := by decide +kernel
theorem k_Model_added_91 : decode Y_Model_added.2.1 91 = .ok (.goto (-39), 3) := by decide +kernel
theorem k_Model_added_94 : decode Y_Model_added.2.1 94 = .ok (.aload_n 0, 1) := by decide +kernel
theorem k_Model_added_95 : decode Y_Model_added.2.1 95 = .ok (.getfield 13, 3) := by decide +kernel
theorem k_Model_added_98 : decode Y_Model_added.2.1 98 = .ok (.iconst 0, 1) := by decide +kernel
theorem k_Model_added_99 : decode Y_Model_added.2.1 99 = .ok (.iload_n 1, 1) := by decide +kernel
theorem k_Model_added_100 : decode Y_Model_added.2.1 100 = .ok (.iastore, 1) := by decide +kernel
theorem k_Model_added_101 : decode Y_Model_added.2.1 101 = .ok (.aload_n 0, 1) := by decide +kernel
theorem k_Model_added_102 : decode Y_Model_added.2.1 102 = .ok (.getfield 13, 3) := by decide +kernel
theorem k_Model_added_105 : decode Y_Model_added.2.1 105 = .ok (.bipush 10, 2) := by decide +kernel
theorem k_Model_added_107 : decode Y_Model_added.2.1 107 = .ok (.iload_n 1, 1) := by decide +kernel
theorem k_Model_added_108 : decode Y_Model_added.2.1 108 = .ok (.iadd, 1) := by decide +kernel
theorem k_Model_added_109 : decode Y_Model_added.2.1 109 = .ok (.iload_n 3, 1) := by decide +kernel
theorem k_Model_added_110 : decode Y_Model_added.2.1 110 = .ok (.iastore, 1) := by decide +kernel
theorem k_Model_added_111 : decode Y_Model_added.2.1 111 = .ok (.aload_n 0, 1) := by decide +kernel
theorem k_Model_added_112 : decode Y_Model_added.2.1 112 = .ok (.getfield 13, 3) := by decide +kernel
theorem k_Model_added_115 : decode Y_Model_added.2.1 115 = .ok (.bipush 30, 2) := by decide +kernel
theorem k_Model_added_117 : decode Y_Model_added.2.1 117 = .ok (.iload_n 1, 1) := by decide +kernel
theorem k_Model_added_118 : decode Y_Model_added.2.1 118 = .ok (.iadd, 1) := by decide +kernel
theorem k_Model_added_119 : decode Y_Model_added.2.1 119 = .ok (.iload 4, 2) := by decide +kernel
theorem k_Model_added_121 : decode Y_Model_added.2.1 121 = .ok (.iastore, 1) := by decide +kernel
theorem k_Model_added_122 : decode Y_Model_added.2.1 122 = .ok (.iload_n 2, 1) := by decide +kernel
theorem k_Model_added_123 : decode Y_Model_added.2.1 123 = .ok (.ireturn, 1) := by decide +kernel
theorem k_Model_silent_0 : decode Y_Model_silent.2.1 0 = .ok (.iconst 0, 1) := by decide +kernel
theorem k_Model_silent_1 : decode Y_Model_silent.2.1 1 = .ok (.istore_n 1, 1) := by decide +kernel
theorem k_Model_silent_2 : decode Y_Model_silent.2.1 2 = .ok (.iconst 0, 1) := by decide +kernel
theorem k_Model_silent_3 : decode Y_Model_silent.2.1 3 = .ok (.istore_n 2, 1) := by decide +kernel
theorem k_Model_silent_4 : decode Y_Model_silent.2.1 4 = .ok (.iload_n 2, 1) := by decide +kernel
theorem k_Model_silent_5 : decode Y_Model_silent.2.1 5 = .ok (.aload_n 0, 1) := by decide +kernel
theorem k_Model_silent_6 : decode Y_Model_silent.2.1 6 = .ok (.getfield 13, 3) := by decide +kernel
theorem k_Model_silent_9 : decode Y_Model_silent.2.1 9 = .ok (.iconst 1, 1) := by decide +kernel
theorem k_Model_silent_10 : decode Y_Model_silent.2.1 10 = .ok (.iaload, 1) := by decide +kernel
theorem k_Model_silent_11 : decode Y_Model_silent.2.1 11 = .ok (.if_icmp .ge 27, 3) := by decide +kernel
theorem k_Model_silent_14 : decode Y_Model_silent.2.1 14 = .ok (.iload_n 1, 1) := by decide +kernel
theorem k_Model_silent_15 : decode Y_Model_silent.2.1 15 = .ok (.aload_n 0, 1) := by decide +kernel
theorem k_Model_silent_16 : decode Y_Model_silent.2.1 16 = .ok (.iload_n 2, 1) := by decide +kernel
theorem k_Model_silent_17 : decode Y_Model_silent.2.1 17 = .ok (.invokevirtual 152, 3) := by decide +kernel
theorem k_Model_silent_20 : decode Y_Model_silent.2.1 20 = .ok (.ifCond .ne 9, 3) := by decide +kernel
theorem k_Model_silent_23 : decode Y_Model_silent.2.1 23 = .ok (.iconst 1, 1) := by decide +kernel
theorem k_Model_silent_24 : decode Y_Model_silent.2.1 24 = .ok (.iload_n 2, 1) := by decide +kernel
theorem k_Model_silent_25 : decode Y_Model_silent.2.1 25 = .ok (.ishl, 1) := by decide +kernel
theorem k_Model_silent_26 : decode Y_Model_silent.2.1 26 = .ok (.goto 4, 3) := by decide +kernel
theorem k_Model_silent_29 : decode Y_Model_silent.2.1 29 = .ok (.iconst 0, 1) := by decide +kernel
theorem k_Model_silent_30 : decode Y_Model_silent.2.1 30 = .ok (.ior, 1) := by decide +kernel
theorem k_Model_silent_31 : decode Y_Model_silent.2.1 31 = .ok (.istore_n 1, 1) := by decide +kernel
theorem k_Model_silent_32 : decode Y_Model_silent.2.1 32 = .ok (.iinc 2 1, 3) := by decide +kernel
theorem k_Model_silent_35 : decode Y_Model_silent.2.1 35 = .ok (.goto (-31), 3) := by decide +kernel
theorem k_Model_silent_38 : decode Y_Model_silent.2.1 38 = .ok (.iload_n 1, 1) := by decide +kernel
theorem k_Model_silent_39 : decode Y_Model_silent.2.1 39 = .ok (.ireturn, 1) := by decide +kernel
theorem k_Model_oneChange_0 : decode Y_Model_oneChange.2.1 0 = .ok (.iconst 0, 1) := by decide +kernel
theorem k_Model_oneChange_1 : decode Y_Model_oneChange.2.1 1 = .ok (.istore_n 1, 1) := by decide +kernel
theorem k_Model_oneChange_2 : decode Y_Model_oneChange.2.1 2 = .ok (.iload_n 1, 1) := by decide +kernel
theorem k_Model_oneChange_3 : decode Y_Model_oneChange.2.1 3 = .ok (.aload_n 0, 1) := by decide +kernel
theorem k_Model_oneChange_4 : decode Y_Model_oneChange.2.1 4 = .ok (.getfield 13, 3) := by decide +kernel
theorem k_Model_oneChange_7 : decode Y_Model_oneChange.2.1 7 = .ok (.iconst 0, 1) := by decide +kernel
theorem k_Model_oneChange_8 : decode Y_Model_oneChange.2.1 8 = .ok (.iaload, 1) := by decide +kernel
theorem k_Model_oneChange_9 : decode Y_Model_oneChange.2.1 9 = .ok (.if_icmp .ge 82, 3) := by decide +kernel
theorem k_Model_oneChange_12 : decode Y_Model_oneChange.2.1 12 = .ok (.aload_n 0, 1) := by decide +kernel
theorem k_Model_oneChange_13 : decode Y_Model_oneChange.2.1 13 = .ok (.getfield 13, 3) := by decide +kernel
theorem k_Model_oneChange_16 : decode Y_Model_oneChange.2.1 16 = .ok (.bipush 10, 2) := by decide +kernel
theorem k_Model_oneChange_18 : decode Y_Model_oneChange.2.1 18 = .ok (.iload_n 1, 1) := by decide +kernel
theorem k_Model_oneChange_19 : decode Y_Model_oneChange.2.1 19 = .ok (.iadd, 1) := by decide +kernel
theorem k_Model_oneChange_20 : decode Y_Model_oneChange.2.1 20 = .ok (.iaload, 1) := by decide +kernel
theorem k_Model_oneChange_21 : decode Y_Model_oneChange.2.1 21 = .ok (.istore_n 2, 1) := by decide +kernel
theorem k_Model_oneChange_22 : decode Y_Model_oneChange.2.1 22 = .ok (.iconst 0, 1) := by decide +kernel
theorem k_Model_oneChange_23 : decode Y_Model_oneChange.2.1 23 = .ok (.istore_n 3, 1) := by decide +kernel
theorem k_Model_oneChange_24 : decode Y_Model_oneChange.2.1 24 = .ok (.iload_n 3, 1) := by decide +kernel
theorem k_Model_oneChange_25 : decode Y_Model_oneChange.2.1 25 = .ok (.bipush 10, 2) := by decide +kernel
theorem k_Model_oneChange_27 : decode Y_Model_oneChange.2.1 27 = .ok (.if_icmp .ge 48, 3) := by decide +kernel
theorem k_Model_oneChange_30 : decode Y_Model_oneChange.2.1 30 = .ok (.aload_n 0, 1) := by decide +kernel
theorem k_Model_oneChange_31 : decode Y_Model_oneChange.2.1 31 = .ok (.getfield 13, 3) := by decide +kernel
theorem k_Model_oneChange_34 : decode Y_Model_oneChange.2.1 34 = .ok (.bipush 10, 2) := by decide +kernel
theorem k_Model_oneChange_36 : decode Y_Model_oneChange.2.1 36 = .ok (.iload_n 1, 1) := by decide +kernel
theorem k_Model_oneChange_37 : decode Y_Model_oneChange.2.1 37 = .ok (.iadd, 1) := by decide +kernel
theorem k_Model_oneChange_38 : decode Y_Model_oneChange.2.1 38 = .ok (.iload_n 3, 1) := by decide +kernel
theorem k_Model_oneChange_39 : decode Y_Model_oneChange.2.1 39 = .ok (.iastore, 1) := by decide +kernel
theorem k_Model_oneChange_40 : decode Y_Model_oneChange.2.1 40 = .ok (.iload_n 3, 1) := by decide +kernel
theorem k_Model_oneChange_41 : decode Y_Model_oneChange.2.1 41 = .ok (.iload_n 2, 1) := by decide +kernel
theorem k_Model_oneChange_42 : decode Y_Model_oneChange.2.1 42 = .ok (.if_icmp .eq 27, 3) := by decide +kernel
theorem k_Model_oneChange_45 : decode Y_Model_oneChange.2.1 45 = .ok (.aload_n 0, 1) := by decide +kernel
theorem k_Model_oneChange_46 : decode Y_Model_oneChange.2.1 46 = .ok (.invokevirtual 159, 3) := by decide +kernel
theorem k_Model_oneChange_49 : decode Y_Model_oneChange.2.1 49 = .ok (.ifCond .eq 20, 3) := by decide +kernel
theorem k_Model_oneChange_52 : decode Y_Model_oneChange.2.1 52 = .ok (.aload_n 0, 1) := by decide +kernel
theorem k_Model_oneChange_53 : decode Y_Model_oneChange.2.1 53 = .ok (.getfield 13, 3) := by decide +kernel
theorem k_Model_oneChange_56 : decode Y_Model_oneChange.2.1 56 = .ok (.bipush 10, 2) := by decide +kernel
theorem k_Model_oneChange_58 : decode Y_Model_oneChange.2.1 58 = .ok (.iload_n 1, 1) := by decide +kernel
theorem k_Model_oneChange_59 : decode Y_Model_oneChange.2.1 59 = .ok (.iadd, 1) := by decide +kernel
theorem k_Model_oneChange_60 : decode Y_Model_oneChange.2.1 60 = .ok (.iload_n 2, 1) := by decide +kernel
theorem k_Model_oneChange_61 : decode Y_Model_oneChange.2.1 61 = .ok (.iastore, 1) := by decide +kernel
theorem k_Model_oneChange_62 : decode Y_Model_oneChange.2.1 62 = .ok (.bipush 10, 2) := by decide +kernel
theorem k_Model_oneChange_64 : decode Y_Model_oneChange.2.1 64 = .ok (.iload_n 1, 1) := by decide +kernel
theorem k_Model_oneChange_65 : decode Y_Model_oneChange.2.1 65 = .ok (.imul, 1) := by decide +kernel
theorem k_Model_oneChange_66 : decode Y_Model_oneChange.2.1 66 = .ok (.iload_n 3, 1) := by decide +kernel
theorem k_Model_oneChange_67 : decode Y_Model_oneChange.2.1 67 = .ok (.iadd, 1) := by decide +kernel
theorem k_Model_oneChange_68 : decode Y_Model_oneChange.2.1 68 = .ok (.ireturn, 1) := by decide +kernel
theorem k_Model_oneChange_69 : decode Y_Model_oneChange.2.1 69 = .ok (.iinc 3 1, 3) := by decide +kernel
theorem k_Model_oneChange_72 : decode Y_Model_oneChange.2.1 72 = .ok (.goto (-48), 3) := by decide +kernel
theorem k_Model_oneChange_75 : decode Y_Model_oneChange.2.1 75 = .ok (.aload_n 0, 1) := by decide +kernel
theorem k_Model_oneChange_76 : decode Y_Model_oneChange.2.1 76 = .ok (.getfield 13, 3) := by decide +kernel
theorem k_Model_oneChange_79 : decode Y_Model_oneChange.2.1 79 = .ok (.bipush 10, 2) := by decide +kernel
theorem k_Model_oneChange_81 : decode Y_Model_oneChange.2.1 81 = .ok (.iload_n 1, 1) := by decide +kernel
theorem k_Model_oneChange_82 : decode Y_Model_oneChange.2.1 82 = .ok (.iadd, 1) := by decide +kernel
theorem k_Model_oneChange_83 : decode Y_Model_oneChange.2.1 83 = .ok (.iload_n 2, 1) := by decide +kernel
theorem k_Model_oneChange_84 : decode Y_Model_oneChange.2.1 84 = .ok (.iastore, 1) := by decide +kernel
theorem k_Model_oneChange_85 : decode Y_Model_oneChange.2.1 85 = .ok (.iinc 1 1, 3) := by decide +kernel
theorem k_Model_oneChange_88 : decode Y_Model_oneChange.2.1 88 = .ok (.goto (-86), 3) := by decide +kernel
theorem k_Model_oneChange_91 : decode Y_Model_oneChange.2.1 91 = .ok (.bipush (-9), 2) := by decide +kernel
theorem k_Model_oneChange_93 : decode Y_Model_oneChange.2.1 93 = .ok (.ireturn, 1) := by decide +kernel
theorem k_Model_isTwoChanges_0 : decode Y_Model_isTwoChanges.2.1 0 = .ok (.iconst 0, 1) := by decide +kernel
theorem k_Model_isTwoChanges_1 : decode Y_Model_isTwoChanges.2.1 1 = .ok (.istore_n 1, 1) := by decide +kernel
theorem k_Model_isTwoChanges_2 : decode Y_Model_isTwoChanges.2.1 2 = .ok (.iload_n 1, 1) := by decide +kernel
theorem k_Model_isTwoChanges_3 : decode Y_Model_isTwoChanges.2.1 3 = .ok (.aload_n 0, 1) := by decide +kernel
theorem k_Model_isTwoChanges_4 : decode Y_Model_isTwoChanges.2.1 4 = .ok (.getfield 13, 3) := by decide +kernel
theorem k_Model_isTwoChanges_7 : decode Y_Model_isTwoChanges.2.1 7 = .ok (.iconst 0, 1) := by decide +kernel
theorem k_Model_isTwoChanges_8 : decode Y_Model_isTwoChanges.2.1 8 = .ok (.iaload, 1) := by decide +kernel
theorem k_Model_isTwoChanges_9 : decode Y_Model_isTwoChanges.2.1 9 = .ok (.if_icmp .ge 79, 3) := by decide +kernel
theorem k_Model_isTwoChanges_12 : decode Y_Model_isTwoChanges.2.1 12 = .ok (.aload_n 0, 1) := by decide +kernel
theorem k_Model_isTwoChanges_13 : decode Y_Model_isTwoChanges.2.1 13 = .ok (.getfield 13, 3) := by decide +kernel
theorem k_Model_isTwoChanges_16 : decode Y_Model_isTwoChanges.2.1 16 = .ok (.bipush 10, 2) := by decide +kernel
theorem k_Model_isTwoChanges_18 : decode Y_Model_isTwoChanges.2.1 18 = .ok (.iload_n 1, 1) := by decide +kernel
theorem k_Model_isTwoChanges_19 : decode Y_Model_isTwoChanges.2.1 19 = .ok (.iadd, 1) := by decide +kernel
theorem k_Model_isTwoChanges_20 : decode Y_Model_isTwoChanges.2.1 20 = .ok (.iaload, 1) := by decide +kernel
theorem k_Model_isTwoChanges_21 : decode Y_Model_isTwoChanges.2.1 21 = .ok (.istore_n 2, 1) := by decide +kernel
theorem k_Model_isTwoChanges_22 : decode Y_Model_isTwoChanges.2.1 22 = .ok (.iconst 0, 1) := by decide +kernel
theorem k_Model_isTwoChanges_23 : decode Y_Model_isTwoChanges.2.1 23 = .ok (.istore_n 3, 1) := by decide +kernel
theorem k_Model_isTwoChanges_24 : decode Y_Model_isTwoChanges.2.1 24 = .ok (.iload_n 3, 1) := by decide +kernel
theorem k_Model_isTwoChanges_25 : decode Y_Model_isTwoChanges.2.1 25 = .ok (.bipush 10, 2) := by decide +kernel
theorem k_Model_isTwoChanges_27 : decode Y_Model_isTwoChanges.2.1 27 = .ok (.if_icmp .ge 45, 3) := by decide +kernel
theorem k_Model_isTwoChanges_30 : decode Y_Model_isTwoChanges.2.1 30 = .ok (.aload_n 0, 1) := by decide +kernel
theorem k_Model_isTwoChanges_31 : decode Y_Model_isTwoChanges.2.1 31 = .ok (.getfield 13, 3) := by decide +kernel
theorem k_Model_isTwoChanges_34 : decode Y_Model_isTwoChanges.2.1 34 = .ok (.bipush 10, 2) := by decide +kernel
theorem k_Model_isTwoChanges_36 : decode Y_Model_isTwoChanges.2.1 36 = .ok (.iload_n 1, 1) := by decide +kernel
theorem k_Model_isTwoChanges_37 : decode Y_Model_isTwoChanges.2.1 37 = .ok (.iadd, 1) := by decide +kernel
theorem k_Model_isTwoChanges_38 : decode Y_Model_isTwoChanges.2.1 38 = .ok (.iload_n 3, 1) := by decide +kernel
theorem k_Model_isTwoChanges_39 : decode Y_Model_isTwoChanges.2.1 39 = .ok (.iastore, 1) := by decide +kernel
theorem k_Model_isTwoChanges_40 : decode Y_Model_isTwoChanges.2.1 40 = .ok (.iload_n 3, 1) := by decide +kernel
theorem k_Model_isTwoChanges_41 : decode Y_Model_isTwoChanges.2.1 41 = .ok (.iload_n 2, 1) := by decide +kernel
theorem k_Model_isTwoChanges_42 : decode Y_Model_isTwoChanges.2.1 42 = .ok (.if_icmp .eq 24, 3) := by decide +kernel
theorem k_Model_isTwoChanges_45 : decode Y_Model_isTwoChanges.2.1 45 = .ok (.aload_n 0, 1) := by decide +kernel
theorem k_Model_isTwoChanges_46 : decode Y_Model_isTwoChanges.2.1 46 = .ok (.invokevirtual 163, 3) := by decide +kernel
theorem k_Model_isTwoChanges_49 : decode Y_Model_isTwoChanges.2.1 49 = .ok (.bipush (-9), 2) := by decide +kernel
theorem k_Model_isTwoChanges_51 : decode Y_Model_isTwoChanges.2.1 51 = .ok (.if_icmp .eq 15, 3) := by decide +kernel
theorem k_Model_isTwoChanges_54 : decode Y_Model_isTwoChanges.2.1 54 = .ok (.aload_n 0, 1) := by decide +kernel
theorem k_Model_isTwoChanges_55 : decode Y_Model_isTwoChanges.2.1 55 = .ok (.getfield 13, 3) := by decide +kernel
theorem k_Model_isTwoChanges_58 : decode Y_Model_isTwoChanges.2.1 58 = .ok (.bipush 10, 2) := by decide +kernel
theorem k_Model_isTwoChanges_60 : decode Y_Model_isTwoChanges.2.1 60 = .ok (.iload_n 1, 1) := by decide +kernel
theorem k_Model_isTwoChanges_61 : decode Y_Model_isTwoChanges.2.1 61 = .ok (.iadd, 1) := by decide +kernel
theorem k_Model_isTwoChanges_62 : decode Y_Model_isTwoChanges.2.1 62 = .ok (.iload_n 2, 1) := by decide +kernel
theorem k_Model_isTwoChanges_63 : decode Y_Model_isTwoChanges.2.1 63 = .ok (.iastore, 1) := by decide +kernel
theorem k_Model_isTwoChanges_64 : decode Y_Model_isTwoChanges.2.1 64 = .ok (.iconst 1, 1) := by decide +kernel
theorem k_Model_isTwoChanges_65 : decode Y_Model_isTwoChanges.2.1 65 = .ok (.ireturn, 1) := by decide +kernel
theorem k_Model_isTwoChanges_66 : decode Y_Model_isTwoChanges.2.1 66 = .ok (.iinc 3 1, 3) := by decide +kernel
theorem k_Model_isTwoChanges_69 : decode Y_Model_isTwoChanges.2.1 69 = .ok (.goto (-45), 3) := by decide +kernel
theorem k_Model_isTwoChanges_72 : decode Y_Model_isTwoChanges.2.1 72 = .ok (.aload_n 0, 1) := by decide +kernel
theorem k_Model_isTwoChanges_73 : decode Y_Model_isTwoChanges.2.1 73 = .ok (.getfield 13, 3) := by decide +kernel
theorem k_Model_isTwoChanges_76 : decode Y_Model_isTwoChanges.2.1 76 = .ok (.bipush 10, 2) := by decide +kernel
theorem k_Model_isTwoChanges_78 : decode Y_Model_isTwoChanges.2.1 78 = .ok (.iload_n 1, 1) := by decide +kernel
theorem k_Model_isTwoChanges_79 : decode Y_Model_isTwoChanges.2.1 79 = .ok (.iadd, 1) := by decide +kernel
theorem k_Model_isTwoChanges_80 : decode Y_Model_isTwoChanges.2.1 80 = .ok (.iload_n 2, 1) := by decide +kernel
theorem k_Model_isTwoChanges_81 : decode Y_Model_isTwoChanges.2.1 81 = .ok (.iastore, 1) := by decide +kernel
theorem k_Model_isTwoChanges_82 : decode Y_Model_isTwoChanges.2.1 82 = .ok (.iinc 1 1, 3) := by decide +kernel
theorem k_Model_isTwoChanges_85 : decode Y_Model_isTwoChanges.2.1 85 = .ok (.goto (-83), 3) := by decide +kernel
theorem k_Model_isTwoChanges_88 : decode Y_Model_isTwoChanges.2.1 88 = .ok (.iconst 0, 1) := by decide +kernel
theorem k_Model_isTwoChanges_89 : decode Y_Model_isTwoChanges.2.1 89 = .ok (.ireturn, 1) := by decide +kernel
theorem k_Model_changed_0 : decode Y_Model_changed.2.1 0 = .ok (.iload_n 1, 1) := by decide +kernel
theorem k_Model_changed_1 : decode Y_Model_changed.2.1 1 = .ok (.ifCond .lt 8, 3) := by decide +kernel
theorem k_Model_changed_4 : decode Y_Model_changed.2.1 4 = .ok (.iload_n 1, 1) := by decide +kernel
theorem k_Model_changed_5 : decode Y_Model_changed.2.1 5 = .ok (.iconst 1, 1) := by decide +kernel
theorem k_Model_changed_6 : decode Y_Model_changed.2.1 6 = .ok (.if_icmp .le 10, 3) := by decide +kernel
theorem k_Model_changed_9 : decode Y_Model_changed.2.1 9 = .ok (.aload_n 0, 1) := by decide +kernel
theorem k_Model_changed_10 : decode Y_Model_changed.2.1 10 = .ok (.bipush (-2), 2) := by decide +kernel
theorem k_Model_changed_12 : decode Y_Model_changed.2.1 12 = .ok (.invokevirtual 49, 3) := by decide +kernel
theorem k_Model_changed_15 : decode Y_Model_changed.2.1 15 = .ok (.ireturn, 1) := by decide +kernel
theorem k_Model_changed_16 : decode Y_Model_changed.2.1 16 = .ok (.aload_n 0, 1) := by decide +kernel
theorem k_Model_changed_17 : decode Y_Model_changed.2.1 17 = .ok (.invokevirtual 159, 3) := by decide +kernel
theorem k_Model_changed_20 : decode Y_Model_changed.2.1 20 = .ok (.ifCond .eq 14, 3) := by decide +kernel
theorem k_Model_changed_23 : decode Y_Model_changed.2.1 23 = .ok (.iload_n 1, 1) := by decide +kernel
theorem k_Model_changed_24 : decode Y_Model_changed.2.1 24 = .ok (.ifCond .ne 7, 3) := by decide +kernel
theorem k_Model_changed_27 : decode Y_Model_changed.2.1 27 = .ok (.iconst 0, 1) := by decide +kernel
theorem k_Model_changed_28 : decode Y_Model_changed.2.1 28 = .ok (.goto 5, 3) := by decide +kernel
theorem k_Model_changed_31 : decode Y_Model_changed.2.1 31 = .ok (.bipush (-9), 2) := by decide +kernel
theorem k_Model_changed_33 : decode Y_Model_changed.2.1 33 = .ok (.ireturn, 1) := by decide +kernel
theorem k_Model_changed_34 : decode Y_Model_changed.2.1 34 = .ok (.aload_n 0, 1) := by decide +kernel
theorem k_Model_changed_35 : decode Y_Model_changed.2.1 35 = .ok (.invokevirtual 163, 3) := by decide +kernel
theorem k_Model_changed_38 : decode Y_Model_changed.2.1 38 = .ok (.istore_n 2, 1) := by decide +kernel
theorem k_Model_changed_39 : decode Y_Model_changed.2.1 39 = .ok (.iload_n 1, 1) := by decide +kernel
theorem k_Model_changed_40 : decode Y_Model_changed.2.1 40 = .ok (.iconst 1, 1) := by decide +kernel
theorem k_Model_changed_41 : decode Y_Model_changed.2.1 41 = .ok (.if_icmp .ne 5, 3) := by decide +kernel
theorem k_Model_changed_44 : decode Y_Model_changed.2.1 44 = .ok (.iload_n 2, 1) := by decide +kernel
theorem k_Model_changed_45 : decode Y_Model_changed.2.1 45 = .ok (.ireturn, 1) := by decide +kernel
theorem k_Model_changed_46 : decode Y_Model_changed.2.1 46 = .ok (.iload_n 2, 1) := by decide +kernel
theorem k_Model_changed_47 : decode Y_Model_changed.2.1 47 = .ok (.bipush (-9), 2) := by decide +kernel
theorem k_Model_changed_49 : decode Y_Model_changed.2.1 49 = .ok (.if_icmp .eq 7, 3) := by decide +kernel
theorem k_Model_changed_52 : decode Y_Model_changed.2.1 52 = .ok (.iconst 1, 1) := by decide +kernel
theorem k_Model_changed_53 : decode Y_Model_changed.2.1 53 = .ok (.goto 16, 3) := by decide +kernel
theorem k_Model_changed_56 : decode Y_Model_changed.2.1 56 = .ok (.aload_n 0, 1) := by decide +kernel
theorem k_Model_changed_57 : decode Y_Model_changed.2.1 57 = .ok (.invokevirtual 166, 3) := by decide +kernel
theorem k_Model_changed_60 : decode Y_Model_changed.2.1 60 = .ok (.ifCond .eq 7, 3) := by decide +kernel
theorem k_Model_changed_63 : decode Y_Model_changed.2.1 63 = .ok (.iconst 2, 1) := by decide +kernel
theorem k_Model_changed_64 : decode Y_Model_changed.2.1 64 = .ok (.goto 5, 3) := by decide +kernel
theorem k_Model_changed_67 : decode Y_Model_changed.2.1 67 = .ok (.bipush (-9), 2) := by decide +kernel
theorem k_Model_changed_69 : decode Y_Model_changed.2.1 69 = .ok (.ireturn, 1) := by decide +kernel
theorem k_Model_better_0 : decode Y_Model_better.2.1 0 = .ok (.aload_n 0, 1) := by decide +kernel
theorem k_Model_better_1 : decode Y_Model_better.2.1 1 = .ok (.bipush (-9), 2) := by decide +kernel
theorem k_Model_better_3 : decode Y_Model_better.2.1 3 = .ok (.invokevirtual 152, 3) := by decide +kernel
theorem k_Model_better_6 : decode Y_Model_better.2.1 6 = .ok (.istore_n 1, 1) := by decide +kernel
theorem k_Model_better_7 : decode Y_Model_better.2.1 7 = .ok (.iconst 0, 1) := by decide +kernel
theorem k_Model_better_8 : decode Y_Model_better.2.1 8 = .ok (.istore_n 2, 1) := by decide +kernel
theorem k_Model_better_9 : decode Y_Model_better.2.1 9 = .ok (.iload_n 2, 1) := by decide +kernel
theorem k_Model_better_10 : decode Y_Model_better.2.1 10 = .ok (.aload_n 0, 1) := by decide +kernel
theorem k_Model_better_11 : decode Y_Model_better.2.1 11 = .ok (.getfield 13, 3) := by decide +kernel
theorem k_Model_better_14 : decode Y_Model_better.2.1 14 = .ok (.iconst 0, 1) := by decide +kernel
theorem k_Model_better_15 : decode Y_Model_better.2.1 15 = .ok (.iaload, 1) := by decide +kernel
theorem k_Model_better_16 : decode Y_Model_better.2.1 16 = .ok (.if_icmp .ge 67, 3) := by decide +kernel
theorem k_Model_better_19 : decode Y_Model_better.2.1 19 = .ok (.aload_n 0, 1) := by decide +kernel
theorem k_Model_better_20 : decode Y_Model_better.2.1 20 = .ok (.getfield 13, 3) := by decide +kernel
theorem k_Model_better_23 : decode Y_Model_better.2.1 23 = .ok (.bipush 10, 2) := by decide +kernel
theorem k_Model_better_25 : decode Y_Model_better.2.1 25 = .ok (.iload_n 2, 1) := by decide +kernel
theorem k_Model_better_26 : decode Y_Model_better.2.1 26 = .ok (.iadd, 1) := by decide +kernel
theorem k_Model_better_27 : decode Y_Model_better.2.1 27 = .ok (.iaload, 1) := by decide +kernel
theorem k_Model_better_28 : decode Y_Model_better.2.1 28 = .ok (.istore_n 3, 1) := by decide +kernel
theorem k_Model_better_29 : decode Y_Model_better.2.1 29 = .ok (.iconst 0, 1) := by decide +kernel
theorem k_Model_better_30 : decode Y_Model_better.2.1 30 = .ok (.istore 4, 2) := by decide +kernel
theorem k_Model_better_32 : decode Y_Model_better.2.1 32 = .ok (.iload 4, 2) := by decide +kernel
theorem k_Model_better_34 : decode Y_Model_better.2.1 34 = .ok (.bipush 10, 2) := by decide +kernel
theorem k_Model_better_36 : decode Y_Model_better.2.1 36 = .ok (.if_icmp .ge 31, 3) := by decide +kernel
theorem k_Model_better_39 : decode Y_Model_better.2.1 39 = .ok (.aload_n 0, 1) := by decide +kernel
theorem k_Model_better_40 : decode Y_Model_better.2.1 40 = .ok (.getfield 13, 3) := by decide +kernel
theorem k_Model_better_43 : decode Y_Model_better.2.1 43 = .ok (.bipush 10, 2) := by decide +kernel
theorem k_Model_better_45 : decode Y_Model_better.2.1 45 = .ok (.iload_n 2, 1) := by decide +kernel
theorem k_Model_better_46 : decode Y_Model_better.2.1 46 = .ok (.iadd, 1) := by decide +kernel
theorem k_Model_better_47 : decode Y_Model_better.2.1 47 = .ok (.iload 4, 2) := by decide +kernel
theorem k_Model_better_49 : decode Y_Model_better.2.1 49 = .ok (.iastore, 1) := by decide +kernel
theorem k_Model_better_50 : decode Y_Model_better.2.1 50 = .ok (.iload_n 1, 1) := by decide +kernel
theorem k_Model_better_51 : decode Y_Model_better.2.1 51 = .ok (.aload_n 0, 1) := by decide +kernel
theorem k_Model_better_52 : decode Y_Model_better.2.1 52 = .ok (.bipush (-9), 2) := by decide +kernel
theorem k_Model_better_54 : decode Y_Model_better.2.1 54 = .ok (.invokevirtual 152, 3) := by decide +kernel
theorem k_Model_better_57 : decode Y_Model_better.2.1 57 = .ok (.invokestatic 169, 3) := by decide +kernel
theorem k_Model_better_60 : decode Y_Model_better.2.1 60 = .ok (.istore_n 1, 1) := by decide +kernel
theorem k_Model_better_61 : decode Y_Model_better.2.1 61 = .ok (.iinc 4 1, 3) := by decide +kernel
theorem k_Model_better_64 : decode Y_Model_better.2.1 64 = .ok (.goto (-32), 3) := by decide +kernel
theorem k_Model_better_67 : decode Y_Model_better.2.1 67 = .ok (.aload_n 0, 1) := by decide +kernel
theorem k_Model_better_68 : decode Y_Model_better.2.1 68 = .ok (.getfield 13, 3) := by decide +kernel
theorem k_Model_better_71 : decode Y_Model_better.2.1 71 = .ok (.bipush 10, 2) := by decide +kernel
theorem k_Model_better_73 : decode Y_Model_better.2.1 73 = .ok (.iload_n 2, 1) := by decide +kernel
theorem k_Model_better_74 : decode Y_Model_better.2.1 74 = .ok (.iadd, 1) := by decide +kernel
theorem k_Model_better_75 : decode Y_Model_better.2.1 75 = .ok (.iload_n 3, 1) := by decide +kernel
theorem k_Model_better_76 : decode Y_Model_better.2.1 76 = .ok (.iastore, 1) := by decide +kernel
theorem k_Model_better_77 : decode Y_Model_better.2.1 77 = .ok (.iinc 2 1, 3) := by decide +kernel
theorem k_Model_better_80 : decode Y_Model_better.2.1 80 = .ok (.goto (-71), 3) := by decide +kernel
theorem k_Model_better_83 : decode Y_Model_better.2.1 83 = .ok (.iload_n 1, 1) := by decide +kernel
theorem k_Model_better_84 : decode Y_Model_better.2.1 84 = .ok (.ireturn, 1) := by decide +kernel
theorem k_Model_mirror_0 : decode Y_Model_mirror.2.1 0 = .ok (.aload_n 0, 1) := by decide +kernel
theorem k_Model_mirror_1 : decode Y_Model_mirror.2.1 1 = .ok (.invokevirtual 94, 3) := by decide +kernel
theorem k_Model_mirror_4 : decode Y_Model_mirror.2.1 4 = .ok (.istore_n 1, 1) := by decide +kernel
theorem k_Model_mirror_5 : decode Y_Model_mirror.2.1 5 = .ok (.iconst 0, 1) := by decide +kernel
theorem k_Model_mirror_6 : decode Y_Model_mirror.2.1 6 = .ok (.istore_n 2, 1) := by decide +kernel
theorem k_Model_mirror_7 : decode Y_Model_mirror.2.1 7 = .ok (.iload_n 2, 1) := by decide +kernel
theorem k_Model_mirror_8 : decode Y_Model_mirror.2.1 8 = .ok (.iload_n 1, 1) := by decide +kernel
theorem k_Model_mirror_9 : decode Y_Model_mirror.2.1 9 = .ok (.if_icmp .ge 28, 3) := by decide +kernel
theorem k_Model_mirror_12 : decode Y_Model_mirror.2.1 12 = .ok (.aload_n 0, 1) := by decide +kernel
theorem k_Model_mirror_13 : decode Y_Model_mirror.2.1 13 = .ok (.iload_n 2, 1) := by decide +kernel
theorem k_Model_mirror_14 : decode Y_Model_mirror.2.1 14 = .ok (.invokevirtual 97, 3) := by decide +kernel
theorem k_Model_mirror_17 : decode Y_Model_mirror.2.1 17 = .ok (.aload_n 0, 1) := by decide +kernel
theorem k_Model_mirror_18 : decode Y_Model_mirror.2.1 18 = .ok (.iload_n 1, 1) := by decide +kernel
theorem k_Model_mirror_19 : decode Y_Model_mirror.2.1 19 = .ok (.iconst 1, 1) := by decide +kernel
theorem k_Model_mirror_20 : decode Y_Model_mirror.2.1 20 = .ok (.isub, 1) := by decide +kernel
theorem k_Model_mirror_21 : decode Y_Model_mirror.2.1 21 = .ok (.iload_n 2, 1) := by decide +kernel
theorem k_Model_mirror_22 : decode Y_Model_mirror.2.1 22 = .ok (.isub, 1) := by decide +kernel
theorem k_Model_mirror_23 : decode Y_Model_mirror.2.1 23 = .ok (.invokevirtual 97, 3) := by decide +kernel
theorem k_Model_mirror_26 : decode Y_Model_mirror.2.1 26 = .ok (.if_icmp .eq 5, 3) := by decide +kernel
theorem k_Model_mirror_29 : decode Y_Model_mirror.2.1 29 = .ok (.iconst 0, 1) := by decide +kernel
theorem k_Model_mirror_30 : decode Y_Model_mirror.2.1 30 = .ok (.ireturn, 1) := by decide +kernel
theorem k_Model_mirror_31 : decode Y_Model_mirror.2.1 31 = .ok (.iinc 2 1, 3) := by decide +kernel
theorem k_Model_mirror_34 : decode Y_Model_mirror.2.1 34 = .ok (.goto (-27), 3) := by decide +kernel
theorem k_Model_mirror_37 : decode Y_Model_mirror.2.1 37 = .ok (.iconst 1, 1) := by decide +kernel
theorem k_Model_mirror_38 : decode Y_Model_mirror.2.1 38 = .ok (.ireturn, 1) := by decide +kernel
theorem k_Model_chains_0 : decode Y_Model_chains.2.1 0 = .ok (.bipush 7, 2) := by decide +kernel
theorem k_Model_chains_2 : decode Y_Model_chains.2.1 2 = .ok (.newarray .long, 2) := by decide +kernel
theorem k_Model_chains_4 : decode Y_Model_chains.2.1 4 = .ok (.dup, 1) := by decide +kernel
theorem k_Model_chains_5 : decode Y_Model_chains.2.1 5 = .ok (.iconst 0, 1) := by decide +kernel
theorem k_Model_chains_6 : decode Y_Model_chains.2.1 6 = .ok (.lconst 1, 1) := by decide +kernel
theorem k_Model_chains_7 : decode Y_Model_chains.2.1 7 = .ok (.lastore, 1) := by decide +kernel
theorem k_Model_chains_8 : decode Y_Model_chains.2.1 8 = .ok (.dup, 1) := by decide +kernel
theorem k_Model_chains_9 : decode Y_Model_chains.2.1 9 = .ok (.iconst 1, 1) := by decide +kernel
theorem k_Model_chains_10 : decode Y_Model_chains.2.1 10 = .ok (.lconst 1, 1) := by decide +kernel
theorem k_Model_chains_11 : decode Y_Model_chains.2.1 11 = .ok (.lastore, 1) := by decide +kernel
theorem k_Model_chains_12 : decode Y_Model_chains.2.1 12 = .ok (.dup, 1) := by decide +kernel
theorem k_Model_chains_13 : decode Y_Model_chains.2.1 13 = .ok (.iconst 2, 1) := by decide +kernel
theorem k_Model_chains_14 : decode Y_Model_chains.2.1 14 = .ok (.lconst 1, 1) := by decide +kernel
theorem k_Model_chains_15 : decode Y_Model_chains.2.1 15 = .ok (.lastore, 1) := by decide +kernel
theorem k_Model_chains_16 : decode Y_Model_chains.2.1 16 = .ok (.dup, 1) := by decide +kernel
theorem k_Model_chains_17 : decode Y_Model_chains.2.1 17 = .ok (.iconst 3, 1) := by decide +kernel
theorem k_Model_chains_18 : decode Y_Model_chains.2.1 18 = .ok (.lconst 1, 1) := by decide +kernel
theorem k_Model_chains_19 : decode Y_Model_chains.2.1 19 = .ok (.lastore, 1) := by decide +kernel
theorem k_Model_chains_20 : decode Y_Model_chains.2.1 20 = .ok (.dup, 1) := by decide +kernel
theorem k_Model_chains_21 : decode Y_Model_chains.2.1 21 = .ok (.iconst 4, 1) := by decide +kernel
theorem k_Model_chains_22 : decode Y_Model_chains.2.1 22 = .ok (.lconst 1, 1) := by decide +kernel
theorem k_Model_chains_23 : decode Y_Model_chains.2.1 23 = .ok (.lastore, 1) := by decide +kernel
theorem k_Model_chains_24 : decode Y_Model_chains.2.1 24 = .ok (.dup, 1) := by decide +kernel
theorem k_Model_chains_25 : decode Y_Model_chains.2.1 25 = .ok (.iconst 5, 1) := by decide +kernel
theorem k_Model_chains_26 : decode Y_Model_chains.2.1 26 = .ok (.lconst 1, 1) := by decide +kernel
theorem k_Model_chains_27 : decode Y_Model_chains.2.1 27 = .ok (.lastore, 1) := by decide +kernel
theorem k_Model_chains_28 : decode Y_Model_chains.2.1 28 = .ok (.dup, 1) := by decide +kernel
theorem k_Model_chains_29 : decode Y_Model_chains.2.1 29 = .ok (.bipush 6, 2) := by decide +kernel
theorem k_Model_chains_31 : decode Y_Model_chains.2.1 31 = .ok (.lconst 1, 1) := by decide +kernel
theorem k_Model_chains_32 : decode Y_Model_chains.2.1 32 = .ok (.lastore, 1) := by decide +kernel
theorem k_Model_chains_33 : decode Y_Model_chains.2.1 33 = .ok (.astore_n 2, 1) := by decide +kernel
theorem k_Model_chains_34 : decode Y_Model_chains.2.1 34 = .ok (.iconst 1, 1) := by decide +kernel
theorem k_Model_chains_35 : decode Y_Model_chains.2.1 35 = .ok (.istore_n 3, 1) := by decide +kernel
theorem k_Model_chains_36 : decode Y_Model_chains.2.1 36 = .ok (.iload_n 3, 1) := by decide +kernel
theorem k_Model_chains_37 : decode Y_Model_chains.2.1 37 = .ok (.iload_n 1, 1) := by decide +kernel
theorem k_Model_chains_38 : decode Y_Model_chains.2.1 38 = .ok (.if_icmp .ge 77, 3) := by decide +kernel
theorem k_Model_chains_41 : decode Y_Model_chains.2.1 41 = .ok (.bipush 7, 2) := by decide +kernel
theorem k_Model_chains_43 : decode Y_Model_chains.2.1 43 = .ok (.newarray .long, 2) := by decide +kernel
theorem k_Model_chains_45 : decode Y_Model_chains.2.1 45 = .ok (.astore 4, 2) := by decide +kernel
theorem k_Model_chains_47 : decode Y_Model_chains.2.1 47 = .ok (.iconst 0, 1) := by decide +kernel
theorem k_Model_chains_48 : decode Y_Model_chains.2.1 48 = .ok (.istore 5, 2) := by decide +kernel
theorem k_Model_chains_50 : decode Y_Model_chains.2.1 50 = .ok (.iload 5, 2) := by decide +kernel
theorem k_Model_chains_52 : decode Y_Model_chains.2.1 52 = .ok (.bipush 7, 2) := by decide +kernel
theorem k_Model_chains_54 : decode Y_Model_chains.2.1 54 = .ok (.if_icmp .ge 52, 3) := by decide +kernel
theorem k_Model_chains_57 : decode Y_Model_chains.2.1 57 = .ok (.iconst 0, 1) := by decide +kernel
theorem k_Model_chains_58 : decode Y_Model_chains.2.1 58 = .ok (.istore 6, 2) := by decide +kernel
theorem k_Model_chains_60 : decode Y_Model_chains.2.1 60 = .ok (.iload 6, 2) := by decide +kernel
theorem k_Model_chains_62 : decode Y_Model_chains.2.1 62 = .ok (.bipush 7, 2) := by decide +kernel
theorem k_Model_chains_64 : decode Y_Model_chains.2.1 64 = .ok (.if_icmp .ge 36, 3) := by decide +kernel
theorem k_Model_chains_67 : decode Y_Model_chains.2.1 67 = .ok (.aload 4, 2) := by decide +kernel
theorem k_Model_chains_69 : decode Y_Model_chains.2.1 69 = .ok (.iload 6, 2) := by decide +kernel
theorem k_Model_chains_71 : decode Y_Model_chains.2.1 71 = .ok (.dup2, 1) := by decide +kernel
theorem k_Model_chains_72 : decode Y_Model_chains.2.1 72 = .ok (.laload, 1) := by decide +kernel
theorem k_Model_chains_73 : decode Y_Model_chains.2.1 73 = .ok (.aload_n 0, 1) := by decide +kernel
theorem k_Model_chains_74 : decode Y_Model_chains.2.1 74 = .ok (.iload 5, 2) := by decide +kernel
theorem k_Model_chains_76 : decode Y_Model_chains.2.1 76 = .ok (.iload 6, 2) := by decide +kernel
theorem k_Model_chains_78 : decode Y_Model_chains.2.1 78 = .ok (.invokevirtual 128, 3) := by decide +kernel
theorem k_Model_chains_81 : decode Y_Model_chains.2.1 81 = .ok (.ifCond .eq 10, 3) := by decide +kernel
theorem k_Model_chains_84 : decode Y_Model_chains.2.1 84 = .ok (.aload_n 2, 1) := by decide +kernel
theorem k_Model_chains_85 : decode Y_Model_chains.2.1 85 = .ok (.iload 5, 2) := by decide +kernel
theorem k_Model_chains_87 : decode Y_Model_chains.2.1 87 = .ok (.laload, 1) := by decide +kernel
theorem k_Model_chains_88 : decode Y_Model_chains.2.1 88 = .ok (.goto 4, 3) := by decide +kernel
theorem k_Model_chains_91 : decode Y_Model_chains.2.1 91 = .ok (.lconst 0, 1) := by decide +kernel
theorem k_Model_chains_92 : decode Y_Model_chains.2.1 92 = .ok (.ladd, 1) := by decide +kernel
theorem k_Model_chains_93 : decode Y_Model_chains.2.1 93 = .ok (.lastore, 1) := by decide +kernel
theorem k_Model_chains_94 : decode Y_Model_chains.2.1 94 = .ok (.iinc 6 1, 3) := by decide +kernel
theorem k_Model_chains_97 : decode Y_Model_chains.2.1 97 = .ok (.goto (-37), 3) := by decide +kernel
theorem k_Model_chains_100 : decode Y_Model_chains.2.1 100 = .ok (.iinc 5 1, 3) := by decide +kernel
theorem k_Model_chains_103 : decode Y_Model_chains.2.1 103 = .ok (.goto (-53), 3) := by decide +kernel
theorem k_Model_chains_106 : decode Y_Model_chains.2.1 106 = .ok (.aload 4, 2) := by decide +kernel
theorem k_Model_chains_108 : decode Y_Model_chains.2.1 108 = .ok (.astore_n 2, 1) := by decide +kernel
theorem k_Model_chains_109 : decode Y_Model_chains.2.1 109 = .ok (.iinc 3 1, 3) := by decide +kernel
theorem k_Model_chains_112 : decode Y_Model_chains.2.1 112 = .ok (.goto (-76), 3) := by decide +kernel
theorem k_Model_chains_115 : decode Y_Model_chains.2.1 115 = .ok (.lconst 0, 1) := by decide +kernel
theorem k_Model_chains_116 : decode Y_Model_chains.2.1 116 = .ok (.lstore_n 3, 1) := by decide +kernel
theorem k_Model_chains_117 : decode Y_Model_chains.2.1 117 = .ok (.iconst 0, 1) := by decide +kernel
theorem k_Model_chains_118 : decode Y_Model_chains.2.1 118 = .ok (.istore 5, 2) := by decide +kernel
theorem k_Model_chains_120 : decode Y_Model_chains.2.1 120 = .ok (.iload 5, 2) := by decide +kernel
theorem k_Model_chains_122 : decode Y_Model_chains.2.1 122 = .ok (.bipush 7, 2) := by decide +kernel
theorem k_Model_chains_124 : decode Y_Model_chains.2.1 124 = .ok (.if_icmp .ge 16, 3) := by decide +kernel
theorem k_Model_chains_127 : decode Y_Model_chains.2.1 127 = .ok (.lload_n 3, 1) := by decide +kernel
theorem k_Model_chains_128 : decode Y_Model_chains.2.1 128 = .ok (.aload_n 2, 1) := by decide +kernel
theorem k_Model_chains_129 : decode Y_Model_chains.2.1 129 = .ok (.iload 5, 2) := by decide +kernel
theorem k_Model_chains_131 : decode Y_Model_chains.2.1 131 = .ok (.laload, 1) := by decide +kernel
theorem k_Model_chains_132 : decode Y_Model_chains.2.1 132 = .ok (.ladd, 1) := by decide +kernel
theorem k_Model_chains_133 : decode Y_Model_chains.2.1 133 = .ok (.lstore_n 3, 1) := by decide +kernel
theorem k_Model_chains_134 : decode Y_Model_chains.2.1 134 = .ok (.iinc 5 1, 3) := by decide +kernel
theorem k_Model_chains_137 : decode Y_Model_chains.2.1 137 = .ok (.goto (-17), 3) := by decide +kernel
theorem k_Model_chains_140 : decode Y_Model_chains.2.1 140 = .ok (.lload_n 3, 1) := by decide +kernel
theorem k_Model_chains_141 : decode Y_Model_chains.2.1 141 = .ok (.lreturn, 1) := by decide +kernel
theorem k_Model_agreeing_0 : decode Y_Model_agreeing.2.1 0 = .ok (.iload_n 1, 1) := by decide +kernel
theorem k_Model_agreeing_1 : decode Y_Model_agreeing.2.1 1 = .ok (.iconst 1, 1) := by decide +kernel
theorem k_Model_agreeing_2 : decode Y_Model_agreeing.2.1 2 = .ok (.if_icmp .lt 8, 3) := by decide +kernel
theorem k_Model_agreeing_5 : decode Y_Model_agreeing.2.1 5 = .ok (.iload_n 2, 1) := by decide +kernel
theorem k_Model_agreeing_6 : decode Y_Model_agreeing.2.1 6 = .ok (.iconst 1, 1) := by decide +kernel
theorem k_Model_agreeing_7 : decode Y_Model_agreeing.2.1 7 = .ok (.if_icmp .ge 15, 3) := by decide +kernel
theorem k_Model_agreeing_10 : decode Y_Model_agreeing.2.1 10 = .ok (.ldc2_w 172, 3) := by decide +kernel
theorem k_Model_agreeing_13 : decode Y_Model_agreeing.2.1 13 = .ok (.aload_n 0, 1) := by decide +kernel
theorem k_Model_agreeing_14 : decode Y_Model_agreeing.2.1 14 = .ok (.bipush (-4), 2) := by decide +kernel
theorem k_Model_agreeing_16 : decode Y_Model_agreeing.2.1 16 = .ok (.invokevirtual 49, 3) := by decide +kernel
theorem k_Model_agreeing_19 : decode Y_Model_agreeing.2.1 19 = .ok (.i2l, 1) := by decide +kernel
theorem k_Model_agreeing_20 : decode Y_Model_agreeing.2.1 20 = .ok (.lsub, 1) := by decide +kernel
theorem k_Model_agreeing_21 : decode Y_Model_agreeing.2.1 21 = .ok (.lreturn, 1) := by decide +kernel
theorem k_Model_agreeing_22 : decode Y_Model_agreeing.2.1 22 = .ok (.iload_n 1, 1) := by decide +kernel
theorem k_Model_agreeing_23 : decode Y_Model_agreeing.2.1 23 = .ok (.bipush 12, 2) := by decide +kernel
theorem k_Model_agreeing_25 : decode Y_Model_agreeing.2.1 25 = .ok (.if_icmp .gt 9, 3) := by decide +kernel
theorem k_Model_agreeing_28 : decode Y_Model_agreeing.2.1 28 = .ok (.iload_n 2, 1) := by decide +kernel
theorem k_Model_agreeing_29 : decode Y_Model_agreeing.2.1 29 = .ok (.bipush 12, 2) := by decide +kernel
theorem k_Model_agreeing_31 : decode Y_Model_agreeing.2.1 31 = .ok (.if_icmp .le 15, 3) := by decide +kernel
theorem k_Model_agreeing_34 : decode Y_Model_agreeing.2.1 34 = .ok (.ldc2_w 172, 3) := by decide +kernel
theorem k_Model_agreeing_37 : decode Y_Model_agreeing.2.1 37 = .ok (.aload_n 0, 1) := by decide +kernel
theorem k_Model_agreeing_38 : decode Y_Model_agreeing.2.1 38 = .ok (.bipush (-6), 2) := by decide +kernel
theorem k_Model_agreeing_40 : decode Y_Model_agreeing.2.1 40 = .ok (.invokevirtual 49, 3) := by decide +kernel
theorem k_Model_agreeing_43 : decode Y_Model_agreeing.2.1 43 = .ok (.i2l, 1) := by decide +kernel
theorem k_Model_agreeing_44 : decode Y_Model_agreeing.2.1 44 = .ok (.lsub, 1) := by decide +kernel
theorem k_Model_agreeing_45 : decode Y_Model_agreeing.2.1 45 = .ok (.lreturn, 1) := by decide +kernel
theorem k_Model_agreeing_46 : decode Y_Model_agreeing.2.1 46 = .ok (.lconst 1, 1) := by decide +kernel
theorem k_Model_agreeing_47 : decode Y_Model_agreeing.2.1 47 = .ok (.lstore_n 3, 1) := by decide +kernel
theorem k_Model_agreeing_48 : decode Y_Model_agreeing.2.1 48 = .ok (.iconst 0, 1) := by decide +kernel
theorem k_Model_agreeing_49 : decode Y_Model_agreeing.2.1 49 = .ok (.istore 5, 2) := by decide +kernel
theorem k_Model_agreeing_51 : decode Y_Model_agreeing.2.1 51 = .ok (.iload 5, 2) := by decide +kernel
theorem k_Model_agreeing_53 : decode Y_Model_agreeing.2.1 53 = .ok (.iload_n 2, 1) := by decide +kernel
theorem k_Model_agreeing_54 : decode Y_Model_agreeing.2.1 54 = .ok (.if_icmp .ge 32, 3) := by decide +kernel
theorem k_Model_agreeing_57 : decode Y_Model_agreeing.2.1 57 = .ok (.iload 5, 2) := by decide +kernel
theorem k_Model_agreeing_59 : decode Y_Model_agreeing.2.1 59 = .ok (.iload_n 1, 1) := by decide +kernel
theorem k_Model_agreeing_60 : decode Y_Model_agreeing.2.1 60 = .ok (.if_icmp .ge 26, 3) := by decide +kernel
theorem k_Model_agreeing_63 : decode Y_Model_agreeing.2.1 63 = .ok (.lload_n 3, 1) := by decide +kernel
theorem k_Model_agreeing_64 : decode Y_Model_agreeing.2.1 64 = .ok (.aload_n 0, 1) := by decide +kernel
theorem k_Model_agreeing_65 : decode Y_Model_agreeing.2.1 65 = .ok (.iload_n 1, 1) := by decide +kernel
theorem k_Model_agreeing_66 : decode Y_Model_agreeing.2.1 66 = .ok (.iload 5, 2) := by decide +kernel
theorem k_Model_agreeing_68 : decode Y_Model_agreeing.2.1 68 = .ok (.isub, 1) := by decide +kernel
theorem k_Model_agreeing_69 : decode Y_Model_agreeing.2.1 69 = .ok (.iload_n 2, 1) := by decide +kernel
theorem k_Model_agreeing_70 : decode Y_Model_agreeing.2.1 70 = .ok (.iadd, 1) := by decide +kernel
theorem k_Model_agreeing_71 : decode Y_Model_agreeing.2.1 71 = .ok (.iconst 1, 1) := by decide +kernel
theorem k_Model_agreeing_72 : decode Y_Model_agreeing.2.1 72 = .ok (.isub, 1) := by decide +kernel
theorem k_Model_agreeing_73 : decode Y_Model_agreeing.2.1 73 = .ok (.iload_n 2, 1) := by decide +kernel
theorem k_Model_agreeing_74 : decode Y_Model_agreeing.2.1 74 = .ok (.idiv, 1) := by decide +kernel
theorem k_Model_agreeing_75 : decode Y_Model_agreeing.2.1 75 = .ok (.invokevirtual 174, 3) := by decide +kernel
theorem k_Model_agreeing_78 : decode Y_Model_agreeing.2.1 78 = .ok (.lmul, 1) := by decide +kernel
theorem k_Model_agreeing_79 : decode Y_Model_agreeing.2.1 79 = .ok (.lstore_n 3, 1) := by decide +kernel
theorem k_Model_agreeing_80 : decode Y_Model_agreeing.2.1 80 = .ok (.iinc 5 1, 3) := by decide +kernel
theorem k_Model_agreeing_83 : decode Y_Model_agreeing.2.1 83 = .ok (.goto (-32), 3) := by decide +kernel
theorem k_Model_agreeing_86 : decode Y_Model_agreeing.2.1 86 = .ok (.lload_n 3, 1) := by decide +kernel
theorem k_Model_agreeing_87 : decode Y_Model_agreeing.2.1 87 = .ok (.lreturn, 1) := by decide +kernel
theorem k_Model_range_0 : decode Y_Model_range.2.1 0 = .ok (.aload_n 0, 1) := by decide +kernel
theorem k_Model_range_1 : decode Y_Model_range.2.1 1 = .ok (.iload_n 1, 1) := by decide +kernel
theorem k_Model_range_2 : decode Y_Model_range.2.1 2 = .ok (.invokevirtual 141, 3) := by decide +kernel
theorem k_Model_range_5 : decode Y_Model_range.2.1 5 = .ok (.ifCond .eq 12, 3) := by decide +kernel
theorem k_Model_range_8 : decode Y_Model_range.2.1 8 = .ok (.ldc 147, 2) := by decide +kernel
theorem k_Model_range_10 : decode Y_Model_range.2.1 10 = .ok (.aload_n 0, 1) := by decide +kernel
theorem k_Model_range_11 : decode Y_Model_range.2.1 11 = .ok (.iconst (-1), 1) := by decide +kernel
theorem k_Model_range_12 : decode Y_Model_range.2.1 12 = .ok (.invokevirtual 49, 3) := by decide +kernel
theorem k_Model_range_15 : decode Y_Model_range.2.1 15 = .ok (.isub, 1) := by decide +kernel
theorem k_Model_range_16 : decode Y_Model_range.2.1 16 = .ok (.ireturn, 1) := by decide +kernel
theorem k_Model_range_17 : decode Y_Model_range.2.1 17 = .ok (.iload_n 2, 1) := by decide +kernel
theorem k_Model_range_18 : decode Y_Model_range.2.1 18 = .ok (.ifCond .lt 8, 3) := by decide +kernel
theorem k_Model_range_21 : decode Y_Model_range.2.1 21 = .ok (.iload_n 2, 1) := by decide +kernel
theorem k_Model_range_22 : decode Y_Model_range.2.1 22 = .ok (.iconst 1, 1) := by decide +kernel
theorem k_Model_range_23 : decode Y_Model_range.2.1 23 = .ok (.if_icmp .le 13, 3) := by decide +kernel
theorem k_Model_range_26 : decode Y_Model_range.2.1 26 = .ok (.ldc 147, 2) := by decide +kernel
theorem k_Model_range_28 : decode Y_Model_range.2.1 28 = .ok (.aload_n 0, 1) := by decide +kernel
theorem k_Model_range_29 : decode Y_Model_range.2.1 29 = .ok (.bipush (-2), 2) := by decide +kernel
theorem k_Model_range_31 : decode Y_Model_range.2.1 31 = .ok (.invokevirtual 49, 3) := by decide +kernel
theorem k_Model_range_34 : decode Y_Model_range.2.1 34 = .ok (.isub, 1) := by decide +kernel
theorem k_Model_range_35 : decode Y_Model_range.2.1 35 = .ok (.ireturn, 1) := by decide +kernel
theorem k_Model_range_36 : decode Y_Model_range.2.1 36 = .ok (.aload_n 0, 1) := by decide +kernel
theorem k_Model_range_37 : decode Y_Model_range.2.1 37 = .ok (.getfield 13, 3) := by decide +kernel
theorem k_Model_range_40 : decode Y_Model_range.2.1 40 = .ok (.iconst 0, 1) := by decide +kernel
theorem k_Model_range_41 : decode Y_Model_range.2.1 41 = .ok (.iaload, 1) := by decide +kernel
theorem k_Model_range_42 : decode Y_Model_range.2.1 42 = .ok (.ifCond .ne 7, 3) := by decide +kernel
theorem k_Model_range_45 : decode Y_Model_range.2.1 45 = .ok (.sipush 999, 3) := by decide +kernel
theorem k_Model_range_48 : decode Y_Model_range.2.1 48 = .ok (.ireturn, 1) := by decide +kernel
theorem k_Model_range_49 : decode Y_Model_range.2.1 49 = .ok (.sipush 999, 3) := by decide +kernel
theorem k_Model_range_52 : decode Y_Model_range.2.1 52 = .ok (.istore_n 3, 1) := by decide +kernel
theorem k_Model_range_53 : decode Y_Model_range.2.1 53 = .ok (.sipush (-999), 3) := by decide +kernel
theorem k_Model_range_56 : decode Y_Model_range.2.1 56 = .ok (.istore 4, 2) := by decide +kernel
theorem k_Model_range_58 : decode Y_Model_range.2.1 58 = .ok (.aload_n 0, 1) := by decide +kernel
theorem k_Model_range_59 : decode Y_Model_range.2.1 59 = .ok (.getfield 13, 3) := by decide +kernel
theorem k_Model_range_62 : decode Y_Model_range.2.1 62 = .ok (.bipush 60, 2) := by decide +kernel
theorem k_Model_range_64 : decode Y_Model_range.2.1 64 = .ok (.iload_n 1, 1) := by decide +kernel
theorem k_Model_range_65 : decode Y_Model_range.2.1 65 = .ok (.iadd, 1) := by decide +kernel
theorem k_Model_range_66 : decode Y_Model_range.2.1 66 = .ok (.iaload, 1) := by decide +kernel
theorem k_Model_range_67 : decode Y_Model_range.2.1 67 = .ok (.istore 5, 2) := by decide +kernel
theorem k_Model_range_69 : decode Y_Model_range.2.1 69 = .ok (.iload 5, 2) := by decide +kernel
theorem k_Model_range_71 : decode Y_Model_range.2.1 71 = .ok (.aload_n 0, 1) := by decide +kernel
theorem k_Model_range_72 : decode Y_Model_range.2.1 72 = .ok (.iload_n 1, 1) := by decide +kernel
theorem k_Model_range_73 : decode Y_Model_range.2.1 73 = .ok (.invokevirtual 111, 3) := by decide +kernel
theorem k_Model_range_76 : decode Y_Model_range.2.1 76 = .ok (.if_icmp .ge 34, 3) := by decide +kernel
theorem k_Model_range_79 : decode Y_Model_range.2.1 79 = .ok (.aload_n 0, 1) := by decide +kernel
theorem k_Model_range_80 : decode Y_Model_range.2.1 80 = .ok (.iload_n 1, 1) := by decide +kernel
theorem k_Model_range_81 : decode Y_Model_range.2.1 81 = .ok (.iload 5, 2) := by decide +kernel
theorem k_Model_range_83 : decode Y_Model_range.2.1 83 = .ok (.invokevirtual 125, 3) := by decide +kernel
theorem k_Model_range_86 : decode Y_Model_range.2.1 86 = .ok (.istore 6, 2) := by decide +kernel
theorem k_Model_range_88 : decode Y_Model_range.2.1 88 = .ok (.iload_n 3, 1) := by decide +kernel
theorem k_Model_range_89 : decode Y_Model_range.2.1 89 = .ok (.iload 6, 2) := by decide +kernel
theorem k_Model_range_91 : decode Y_Model_range.2.1 91 = .ok (.invokestatic 169, 3) := by decide +kernel
theorem k_Model_range_94 : decode Y_Model_range.2.1 94 = .ok (.istore_n 3, 1) := by decide +kernel
theorem k_Model_range_95 : decode Y_Model_range.2.1 95 = .ok (.iload 4, 2) := by decide +kernel
theorem k_Model_range_97 : decode Y_Model_range.2.1 97 = .ok (.iload 6, 2) := by decide +kernel
theorem k_Model_range_99 : decode Y_Model_range.2.1 99 = .ok (.invokestatic 114, 3) := by decide +kernel
theorem k_Model_range_102 : decode Y_Model_range.2.1 102 = .ok (.istore 4, 2) := by decide +kernel
theorem k_Model_range_104 : decode Y_Model_range.2.1 104 = .ok (.iinc 5 1, 3) := by decide +kernel
theorem k_Model_range_107 : decode Y_Model_range.2.1 107 = .ok (.goto (-38), 3) := by decide +kernel
theorem k_Model_range_110 : decode Y_Model_range.2.1 110 = .ok (.iload_n 2, 1) := by decide +kernel
theorem k_Model_range_111 : decode Y_Model_range.2.1 111 = .ok (.ifCond .ne 7, 3) := by decide +kernel
theorem k_Model_range_114 : decode Y_Model_range.2.1 114 = .ok (.iload_n 3, 1) := by decide +kernel
theorem k_Model_range_115 : decode Y_Model_range.2.1 115 = .ok (.goto 5, 3) := by decide +kernel
theorem k_Model_range_118 : decode Y_Model_range.2.1 118 = .ok (.iload 4, 2) := by decide +kernel
theorem k_Model_range_120 : decode Y_Model_range.2.1 120 = .ok (.ireturn, 1) := by decide +kernel
theorem k_Model_stop_0 : decode Y_Model_stop.2.1 0 = .ok (.iload_n 1, 1) := by decide +kernel
theorem k_Model_stop_1 : decode Y_Model_stop.2.1 1 = .ok (.iconst 0, 1) := by decide +kernel
theorem k_Model_stop_2 : decode Y_Model_stop.2.1 2 = .ok (.sipush 400, 3) := by decide +kernel
theorem k_Model_stop_5 : decode Y_Model_stop.2.1 5 = .ok (.invokestatic 148, 3) := by decide +kernel
theorem k_Model_stop_8 : decode Y_Model_stop.2.1 8 = .ok (.ifCond .eq 16, 3) := by decide +kernel
theorem k_Model_stop_11 : decode Y_Model_stop.2.1 11 = .ok (.aload_n 0, 1) := by decide +kernel
theorem k_Model_stop_12 : decode Y_Model_stop.2.1 12 = .ok (.iload_n 1, 1) := by decide +kernel
theorem k_Model_stop_13 : decode Y_Model_stop.2.1 13 = .ok (.iconst 0, 1) := by decide +kernel
theorem k_Model_stop_14 : decode Y_Model_stop.2.1 14 = .ok (.sipush 400, 3) := by decide +kernel
theorem k_Model_stop_17 : decode Y_Model_stop.2.1 17 = .ok (.invokestatic 148, 3) := by decide +kernel
theorem k_Model_stop_20 : decode Y_Model_stop.2.1 20 = .ok (.invokevirtual 49, 3) := by decide +kernel
theorem k_Model_stop_23 : decode Y_Model_stop.2.1 23 = .ok (.ireturn, 1) := by decide +kernel
theorem k_Model_stop_24 : decode Y_Model_stop.2.1 24 = .ok (.iconst 0, 1) := by decide +kernel
theorem k_Model_stop_25 : decode Y_Model_stop.2.1 25 = .ok (.istore_n 2, 1) := by decide +kernel
theorem k_Model_stop_26 : decode Y_Model_stop.2.1 26 = .ok (.iconst 0, 1) := by decide +kernel
theorem k_Model_stop_27 : decode Y_Model_stop.2.1 27 = .ok (.istore_n 3, 1) := by decide +kernel
theorem k_Model_stop_28 : decode Y_Model_stop.2.1 28 = .ok (.iload_n 3, 1) := by decide +kernel
theorem k_Model_stop_29 : decode Y_Model_stop.2.1 29 = .ok (.aload_n 0, 1) := by decide +kernel
theorem k_Model_stop_30 : decode Y_Model_stop.2.1 30 = .ok (.getfield 13, 3) := by decide +kernel
theorem k_Model_stop_33 : decode Y_Model_stop.2.1 33 = .ok (.iconst 1, 1) := by decide +kernel
theorem k_Model_stop_34 : decode Y_Model_stop.2.1 34 = .ok (.iaload, 1) := by decide +kernel
theorem k_Model_stop_35 : decode Y_Model_stop.2.1 35 = .ok (.if_icmp .ge 78, 3) := by decide +kernel
theorem k_Model_stop_38 : decode Y_Model_stop.2.1 38 = .ok (.aload_n 0, 1) := by decide +kernel
theorem k_Model_stop_39 : decode Y_Model_stop.2.1 39 = .ok (.getfield 13, 3) := by decide +kernel
theorem k_Model_stop_42 : decode Y_Model_stop.2.1 42 = .ok (.iconst 0, 1) := by decide +kernel
theorem k_Model_stop_43 : decode Y_Model_stop.2.1 43 = .ok (.iaload, 1) := by decide +kernel
theorem k_Model_stop_44 : decode Y_Model_stop.2.1 44 = .ok (.ifCond .le 69, 3) := by decide +kernel
theorem k_Model_stop_47 : decode Y_Model_stop.2.1 47 = .ok (.aload_n 0, 1) := by decide +kernel
theorem k_Model_stop_48 : decode Y_Model_stop.2.1 48 = .ok (.getfield 13, 3) := by decide +kernel
theorem k_Model_stop_51 : decode Y_Model_stop.2.1 51 = .ok (.bipush 60, 2) := by decide +kernel
theorem k_Model_stop_53 : decode Y_Model_stop.2.1 53 = .ok (.iload_n 3, 1) := by decide +kernel
theorem k_Model_stop_54 : decode Y_Model_stop.2.1 54 = .ok (.iadd, 1) := by decide +kernel
theorem k_Model_stop_55 : decode Y_Model_stop.2.1 55 = .ok (.iaload, 1) := by decide +kernel
theorem k_Model_stop_56 : decode Y_Model_stop.2.1 56 = .ok (.istore 4, 2) := by decide +kernel
theorem k_Model_stop_58 : decode Y_Model_stop.2.1 58 = .ok (.aload_n 0, 1) := by decide +kernel
theorem k_Model_stop_59 : decode Y_Model_stop.2.1 59 = .ok (.aload_n 0, 1) := by decide +kernel
theorem k_Model_stop_60 : decode Y_Model_stop.2.1 60 = .ok (.getfield 13, 3) := by decide +kernel
theorem k_Model_stop_63 : decode Y_Model_stop.2.1 63 = .ok (.bipush 50, 2) := by decide +kernel
theorem k_Model_stop_65 : decode Y_Model_stop.2.1 65 = .ok (.iload_n 3, 1) := by decide +kernel
theorem k_Model_stop_66 : decode Y_Model_stop.2.1 66 = .ok (.iadd, 1) := by decide +kernel
theorem k_Model_stop_67 : decode Y_Model_stop.2.1 67 = .ok (.iaload, 1) := by decide +kernel
theorem k_Model_stop_68 : decode Y_Model_stop.2.1 68 = .ok (.invokevirtual 100, 3) := by decide +kernel
theorem k_Model_stop_71 : decode Y_Model_stop.2.1 71 = .ok (.istore 5, 2) := by decide +kernel
theorem k_Model_stop_73 : decode Y_Model_stop.2.1 73 = .ok (.iload 4, 2) := by decide +kernel
theorem k_Model_stop_75 : decode Y_Model_stop.2.1 75 = .ok (.iload_n 1, 1) := by decide +kernel
theorem k_Model_stop_76 : decode Y_Model_stop.2.1 76 = .ok (.if_icmp .gt 31, 3) := by decide +kernel
theorem k_Model_stop_79 : decode Y_Model_stop.2.1 79 = .ok (.iload_n 2, 1) := by decide +kernel
theorem k_Model_stop_80 : decode Y_Model_stop.2.1 80 = .ok (.aload_n 0, 1) := by decide +kernel
theorem k_Model_stop_81 : decode Y_Model_stop.2.1 81 = .ok (.iload_n 3, 1) := by decide +kernel
theorem k_Model_stop_82 : decode Y_Model_stop.2.1 82 = .ok (.invokevirtual 111, 3) := by decide +kernel
theorem k_Model_stop_85 : decode Y_Model_stop.2.1 85 = .ok (.iload 4, 2) := by decide +kernel
theorem k_Model_stop_87 : decode Y_Model_stop.2.1 87 = .ok (.iload 5, 2) := by decide +kernel
theorem k_Model_stop_89 : decode Y_Model_stop.2.1 89 = .ok (.iload_n 1, 1) := by decide +kernel
theorem k_Model_stop_90 : decode Y_Model_stop.2.1 90 = .ok (.iload 4, 2) := by decide +kernel
theorem k_Model_stop_92 : decode Y_Model_stop.2.1 92 = .ok (.isub, 1) := by decide +kernel
theorem k_Model_stop_93 : decode Y_Model_stop.2.1 93 = .ok (.iload 5, 2) := by decide +kernel
theorem k_Model_stop_95 : decode Y_Model_stop.2.1 95 = .ok (.idiv, 1) := by decide +kernel
theorem k_Model_stop_96 : decode Y_Model_stop.2.1 96 = .ok (.iconst 1, 1) := by decide +kernel
theorem k_Model_stop_97 : decode Y_Model_stop.2.1 97 = .ok (.iadd, 1) := by decide +kernel
theorem k_Model_stop_98 : decode Y_Model_stop.2.1 98 = .ok (.imul, 1) := by decide +kernel
theorem k_Model_stop_99 : decode Y_Model_stop.2.1 99 = .ok (.iadd, 1) := by decide +kernel
theorem k_Model_stop_100 : decode Y_Model_stop.2.1 100 = .ok (.invokestatic 169, 3) := by decide +kernel
theorem k_Model_stop_103 : decode Y_Model_stop.2.1 103 = .ok (.invokestatic 114, 3) := by decide +kernel
theorem k_Model_stop_106 : decode Y_Model_stop.2.1 106 = .ok (.istore_n 2, 1) := by decide +kernel
theorem k_Model_stop_107 : decode Y_Model_stop.2.1 107 = .ok (.iinc 3 1, 3) := by decide +kernel
theorem k_Model_stop_110 : decode Y_Model_stop.2.1 110 = .ok (.goto (-82), 3) := by decide +kernel
theorem k_Model_stop_113 : decode Y_Model_stop.2.1 113 = .ok (.iload_n 2, 1) := by decide +kernel
theorem k_Model_stop_114 : decode Y_Model_stop.2.1 114 = .ok (.ireturn, 1) := by decide +kernel
theorem k_Model_unison_0 : decode Y_Model_unison.2.1 0 = .ok (.iconst 0, 1) := by decide +kernel
theorem k_Model_unison_1 : decode Y_Model_unison.2.1 1 = .ok (.istore_n 1, 1) := by decide +kernel
theorem k_Model_unison_2 : decode Y_Model_unison.2.1 2 = .ok (.aload_n 0, 1) := by decide +kernel
theorem k_Model_unison_3 : decode Y_Model_unison.2.1 3 = .ok (.invokevirtual 131, 3) := by decide +kernel
theorem k_Model_unison_6 : decode Y_Model_unison.2.1 6 = .ok (.istore_n 2, 1) := by decide +kernel
theorem k_Model_unison_7 : decode Y_Model_unison.2.1 7 = .ok (.iconst 0, 1) := by decide +kernel
theorem k_Model_unison_8 : decode Y_Model_unison.2.1 8 = .ok (.istore_n 3, 1) := by decide +kernel
theorem k_Model_unison_9 : decode Y_Model_unison.2.1 9 = .ok (.iload_n 3, 1) := by decide +kernel
theorem k_Model_unison_10 : decode Y_Model_unison.2.1 10 = .ok (.iload_n 2, 1) := by decide +kernel
theorem k_Model_unison_11 : decode Y_Model_unison.2.1 11 = .ok (.if_icmp .ge 109, 3) := by decide +kernel
theorem k_Model_unison_14 : decode Y_Model_unison.2.1 14 = .ok (.iconst 0, 1) := by decide +kernel
theorem k_Model_unison_15 : decode Y_Model_unison.2.1 15 = .ok (.istore 4, 2) := by decide +kernel
theorem k_Model_unison_17 : decode Y_Model_unison.2.1 17 = .ok (.iconst 0, 1) := by decide +kernel
theorem k_Model_unison_18 : decode Y_Model_unison.2.1 18 = .ok (.istore 5, 2) := by decide +kernel
theorem k_Model_unison_20 : decode Y_Model_unison.2.1 20 = .ok (.iload 5, 2) := by decide +kernel
theorem k_Model_unison_22 : decode Y_Model_unison.2.1 22 = .ok (.aload_n 0, 1) := by decide +kernel
theorem k_Model_unison_23 : decode Y_Model_unison.2.1 23 = .ok (.getfield 13, 3) := by decide +kernel
theorem k_Model_unison_26 : decode Y_Model_unison.2.1 26 = .ok (.iconst 1, 1) := by decide +kernel
theorem k_Model_unison_27 : decode Y_Model_unison.2.1 27 = .ok (.iaload, 1) := by decide +kernel
theorem k_Model_unison_28 : decode Y_Model_unison.2.1 28 = .ok (.if_icmp .ge 73, 3) := by decide +kernel
theorem k_Model_unison_31 : decode Y_Model_unison.2.1 31 = .ok (.aload_n 0, 1) := by decide +kernel
theorem k_Model_unison_32 : decode Y_Model_unison.2.1 32 = .ok (.iload 5, 2) := by decide +kernel
theorem k_Model_unison_34 : decode Y_Model_unison.2.1 34 = .ok (.iload_n 3, 1) := by decide +kernel
theorem k_Model_unison_35 : decode Y_Model_unison.2.1 35 = .ok (.invokevirtual 125, 3) := by decide +kernel
theorem k_Model_unison_38 : decode Y_Model_unison.2.1 38 = .ok (.istore 6, 2) := by decide +kernel
theorem k_Model_unison_40 : decode Y_Model_unison.2.1 40 = .ok (.iload 5, 2) := by decide +kernel
theorem k_Model_unison_42 : decode Y_Model_unison.2.1 42 = .ok (.iconst 1, 1) := by decide +kernel
theorem k_Model_unison_43 : decode Y_Model_unison.2.1 43 = .ok (.iadd, 1) := by decide +kernel
theorem k_Model_unison_44 : decode Y_Model_unison.2.1 44 = .ok (.istore 7, 2) := by decide +kernel
theorem k_Model_unison_46 : decode Y_Model_unison.2.1 46 = .ok (.iload 7, 2) := by decide +kernel
theorem k_Model_unison_48 : decode Y_Model_unison.2.1 48 = .ok (.aload_n 0, 1) := by decide +kernel
theorem k_Model_unison_49 : decode Y_Model_unison.2.1 49 = .ok (.getfield 13, 3) := by decide +kernel
theorem k_Model_unison_52 : decode Y_Model_unison.2.1 52 = .ok (.iconst 1, 1) := by decide +kernel
theorem k_Model_unison_53 : decode Y_Model_unison.2.1 53 = .ok (.iaload, 1) := by decide +kernel
theorem k_Model_unison_54 : decode Y_Model_unison.2.1 54 = .ok (.if_icmp .ge 41, 3) := by decide +kernel
theorem k_Model_unison_57 : decode Y_Model_unison.2.1 57 = .ok (.iload 4, 2) := by decide +kernel
theorem k_Model_unison_59 : decode Y_Model_unison.2.1 59 = .ok (.ifCond .ne 23, 3) := by decide +kernel
theorem k_Model_unison_62 : decode Y_Model_unison.2.1 62 = .ok (.iload 6, 2) := by decide +kernel
theorem k_Model_unison_64 : decode Y_Model_unison.2.1 64 = .ok (.sipush 999, 3) := by decide +kernel
theorem k_Model_unison_67 : decode Y_Model_unison.2.1 67 = .ok (.if_icmp .eq 19, 3) := by decide +kernel
theorem k_Model_unison_70 : decode Y_Model_unison.2.1 70 = .ok (.iload 6, 2) := by decide +kernel
theorem k_Model_unison_72 : decode Y_Model_unison.2.1 72 = .ok (.aload_n 0, 1) := by decide +kernel
theorem k_Model_unison_73 : decode Y_Model_unison.2.1 73 = .ok (.iload 7, 2) := by decide +kernel
theorem k_Model_unison_75 : decode Y_Model_unison.2.1 75 = .ok (.iload_n 3, 1) := by decide +kernel
theorem k_Model_unison_76 : decode Y_Model_unison.2.1 76 = .ok (.invokevirtual 125, 3) := by decide +kernel
theorem k_Model_unison_79 : decode Y_Model_unison.2.1 79 = .ok (.if_icmp .ne 7, 3) := by decide +kernel
theorem k_Model_unison_82 : decode Y_Model_unison.2.1 82 = .ok (.iconst 1, 1) := by decide +kernel
theorem k_Model_unison_83 : decode Y_Model_unison.2.1 83 = .ok (.goto 4, 3) := by decide +kernel
theorem k_Model_unison_86 : decode Y_Model_unison.2.1 86 = .ok (.iconst 0, 1) := by decide +kernel
theorem k_Model_unison_87 : decode Y_Model_unison.2.1 87 = .ok (.istore 4, 2) := by decide +kernel
theorem k_Model_unison_89 : decode Y_Model_unison.2.1 89 = .ok (.iinc 7 1, 3) := by decide +kernel
theorem k_Model_unison_92 : decode Y_Model_unison.2.1 92 = .ok (.goto (-46), 3) := by decide +kernel
theorem k_Model_unison_95 : decode Y_Model_unison.2.1 95 = .ok (.iinc 5 1, 3) := by decide +kernel
theorem k_Model_unison_98 : decode Y_Model_unison.2.1 98 = .ok (.goto (-78), 3) := by decide +kernel
theorem k_Model_unison_101 : decode Y_Model_unison.2.1 101 = .ok (.iload_n 1, 1) := by decide +kernel
theorem k_Model_unison_102 : decode Y_Model_unison.2.1 102 = .ok (.iload 4, 2) := by decide +kernel
theorem k_Model_unison_104 : decode Y_Model_unison.2.1 104 = .ok (.ifCond .eq 7, 3) := by decide +kernel
theorem k_Model_unison_107 : decode Y_Model_unison.2.1 107 = .ok (.iconst 1, 1) := by decide +kernel
theorem k_Model_unison_108 : decode Y_Model_unison.2.1 108 = .ok (.goto 4, 3) := by decide +kernel
theorem k_Model_unison_111 : decode Y_Model_unison.2.1 111 = .ok (.iconst 0, 1) := by decide +kernel
theorem k_Model_unison_112 : decode Y_Model_unison.2.1 112 = .ok (.iadd, 1) := by decide +kernel
theorem k_Model_unison_113 : decode Y_Model_unison.2.1 113 = .ok (.istore_n 1, 1) := by decide +kernel
theorem k_Model_unison_114 : decode Y_Model_unison.2.1 114 = .ok (.iinc 3 1, 3) := by decide +kernel
theorem k_Model_unison_117 : decode Y_Model_unison.2.1 117 = .ok (.goto (-108), 3) := by decide +kernel
theorem k_Model_unison_120 : decode Y_Model_unison.2.1 120 = .ok (.iload_n 1, 1) := by decide +kernel
theorem k_Model_unison_121 : decode Y_Model_unison.2.1 121 = .ok (.ireturn, 1) := by decide +kernel
theorem k_Model_row_0 : decode Y_Model_row.2.1 0 = .ok (.iload_n 1, 1) := by decide +kernel
theorem k_Model_row_1 : decode Y_Model_row.2.1 1 = .ok (.ifCond .ge 10, 3) := by decide +kernel
theorem k_Model_row_4 : decode Y_Model_row.2.1 4 = .ok (.aload_n 0, 1) := by decide +kernel
theorem k_Model_row_5 : decode Y_Model_row.2.1 5 = .ok (.bipush (-4), 2) := by decide +kernel
theorem k_Model_row_7 : decode Y_Model_row.2.1 7 = .ok (.invokevirtual 49, 3) := by decide +kernel
theorem k_Model_row_10 : decode Y_Model_row.2.1 10 = .ok (.ireturn, 1) := by decide +kernel
theorem k_Model_row_11 : decode Y_Model_row.2.1 11 = .ok (.iload_n 1, 1) := by decide +kernel
theorem k_Model_row_12 : decode Y_Model_row.2.1 12 = .ok (.bipush 60, 2) := by decide +kernel
theorem k_Model_row_14 : decode Y_Model_row.2.1 14 = .ok (.if_icmp .gt 12, 3) := by decide +kernel
theorem k_Model_row_17 : decode Y_Model_row.2.1 17 = .ok (.aload_n 0, 1) := by decide +kernel
theorem k_Model_row_18 : decode Y_Model_row.2.1 18 = .ok (.getfield 178, 3) := by decide +kernel
theorem k_Model_row_21 : decode Y_Model_row.2.1 21 = .ok (.bipush 12, 2) := by decide +kernel
theorem k_Model_row_23 : decode Y_Model_row.2.1 23 = .ok (.if_icmp .ne 10, 3) := by decide +kernel
theorem k_Model_row_26 : decode Y_Model_row.2.1 26 = .ok (.aload_n 0, 1) := by decide +kernel
theorem k_Model_row_27 : decode Y_Model_row.2.1 27 = .ok (.bipush (-6), 2) := by decide +kernel
theorem k_Model_row_29 : decode Y_Model_row.2.1 29 = .ok (.invokevirtual 49, 3) := by decide +kernel
theorem k_Model_row_32 : decode Y_Model_row.2.1 32 = .ok (.ireturn, 1) := by decide +kernel
theorem k_Model_row_33 : decode Y_Model_row.2.1 33 = .ok (.aload_n 0, 1) := by decide +kernel
theorem k_Model_row_34 : decode Y_Model_row.2.1 34 = .ok (.getfield 38, 3) := by decide +kernel
theorem k_Model_row_37 : decode Y_Model_row.2.1 37 = .ok (.aload_n 0, 1) := by decide +kernel
theorem k_Model_row_38 : decode Y_Model_row.2.1 38 = .ok (.getfield 178, 3) := by decide +kernel
theorem k_Model_row_41 : decode Y_Model_row.2.1 41 = .ok (.iload_n 1, 1) := by decide +kernel
theorem k_Model_row_42 : decode Y_Model_row.2.1 42 = .ok (.iastore, 1) := by decide +kernel
theorem k_Model_row_43 : decode Y_Model_row.2.1 43 = .ok (.aload_n 0, 1) := by decide +kernel
theorem k_Model_row_44 : decode Y_Model_row.2.1 44 = .ok (.dup, 1) := by decide +kernel
theorem k_Model_row_45 : decode Y_Model_row.2.1 45 = .ok (.getfield 178, 3) := by decide +kernel
theorem k_Model_row_48 : decode Y_Model_row.2.1 48 = .ok (.iconst 1, 1) := by decide +kernel
theorem k_Model_row_49 : decode Y_Model_row.2.1 49 = .ok (.iadd, 1) := by decide +kernel
theorem k_Model_row_50 : decode Y_Model_row.2.1 50 = .ok (.putfield 178, 3) := by decide +kernel
theorem k_Model_row_53 : decode Y_Model_row.2.1 53 = .ok (.aload_n 0, 1) := by decide +kernel
theorem k_Model_row_54 : decode Y_Model_row.2.1 54 = .ok (.getfield 178, 3) := by decide +kernel
theorem k_Model_row_57 : decode Y_Model_row.2.1 57 = .ok (.ireturn, 1) := by decide +kernel
theorem k_Model_unlike_0 : decode Y_Model_unlike.2.1 0 = .ok (.iconst 0, 1) := by decide +kernel
theorem k_Model_unlike_1 : decode Y_Model_unlike.2.1 1 = .ok (.istore 4, 2) := by decide +kernel
theorem k_Model_unlike_3 : decode Y_Model_unlike.2.1 3 = .ok (.iload 4, 2) := by decide +kernel
theorem k_Model_unlike_5 : decode Y_Model_unlike.2.1 5 = .ok (.iload_n 3, 1) := by decide +kernel
theorem k_Model_unlike_6 : decode Y_Model_unlike.2.1 6 = .ok (.if_icmp .ge 51, 3) := by decide +kernel
theorem k_Model_unlike_9 : decode Y_Model_unlike.2.1 9 = .ok (.aload_n 0, 1) := by decide +kernel
theorem k_Model_unlike_10 : decode Y_Model_unlike.2.1 10 = .ok (.iload_n 1, 1) := by decide +kernel
theorem k_Model_unlike_11 : decode Y_Model_unlike.2.1 11 = .ok (.iload_n 2, 1) := by decide +kernel
theorem k_Model_unlike_12 : decode Y_Model_unlike.2.1 12 = .ok (.iload 4, 2) := by decide +kernel
theorem k_Model_unlike_14 : decode Y_Model_unlike.2.1 14 = .ok (.iadd, 1) := by decide +kernel
theorem k_Model_unlike_15 : decode Y_Model_unlike.2.1 15 = .ok (.invokevirtual 125, 3) := by decide +kernel
theorem k_Model_unlike_18 : decode Y_Model_unlike.2.1 18 = .ok (.istore 5, 2) := by decide +kernel
theorem k_Model_unlike_20 : decode Y_Model_unlike.2.1 20 = .ok (.aload_n 0, 1) := by decide +kernel
theorem k_Model_unlike_21 : decode Y_Model_unlike.2.1 21 = .ok (.getfield 38, 3) := by decide +kernel
theorem k_Model_unlike_24 : decode Y_Model_unlike.2.1 24 = .ok (.iload 4, 2) := by decide +kernel
theorem k_Model_unlike_26 : decode Y_Model_unlike.2.1 26 = .ok (.iaload, 1) := by decide +kernel
theorem k_Model_unlike_27 : decode Y_Model_unlike.2.1 27 = .ok (.iload 5, 2) := by decide +kernel
theorem k_Model_unlike_29 : decode Y_Model_unlike.2.1 29 = .ok (.sipush 999, 3) := by decide +kernel
theorem k_Model_unlike_32 : decode Y_Model_unlike.2.1 32 = .ok (.if_icmp .ne 8, 3) := by decide +kernel
theorem k_Model_unlike_35 : decode Y_Model_unlike.2.1 35 = .ok (.bipush 60, 2) := by decide +kernel
theorem k_Model_unlike_37 : decode Y_Model_unlike.2.1 37 = .ok (.goto 8, 3) := by decide +kernel
theorem k_Model_unlike_40 : decode Y_Model_unlike.2.1 40 = .ok (.iload 5, 2) := by decide +kernel
theorem k_Model_unlike_42 : decode Y_Model_unlike.2.1 42 = .ok (.bipush 10, 2) := by decide +kernel
theorem k_Model_unlike_44 : decode Y_Model_unlike.2.1 44 = .ok (.iadd, 1) := by decide +kernel
theorem k_Model_unlike_45 : decode Y_Model_unlike.2.1 45 = .ok (.if_icmp .eq 6, 3) := by decide +kernel
theorem k_Model_unlike_48 : decode Y_Model_unlike.2.1 48 = .ok (.iload 4, 2) := by decide +kernel
theorem k_Model_unlike_50 : decode Y_Model_unlike.2.1 50 = .ok (.ireturn, 1) := by decide +kernel
theorem k_Model_unlike_51 : decode Y_Model_unlike.2.1 51 = .ok (.iinc 4 1, 3) := by decide +kernel
theorem k_Model_unlike_54 : decode Y_Model_unlike.2.1 54 = .ok (.goto (-51), 3) := by decide +kernel
theorem k_Model_unlike_57 : decode Y_Model_unlike.2.1 57 = .ok (.bipush (-9), 2) := by decide +kernel
theorem k_Model_unlike_59 : decode Y_Model_unlike.2.1 59 = .ok (.ireturn, 1) := by decide +kernel
theorem k_Model_who_0 : decode Y_Model_who.2.1 0 = .ok (.iload_n 1, 1) := by decide +kernel
theorem k_Model_who_1 : decode Y_Model_who.2.1 1 = .ok (.iconst 0, 1) := by decide +kernel
theorem k_Model_who_2 : decode Y_Model_who.2.1 2 = .ok (.sipush 400, 3) := by decide +kernel
theorem k_Model_who_5 : decode Y_Model_who.2.1 5 = .ok (.invokestatic 148, 3) := by decide +kernel
theorem k_Model_who_8 : decode Y_Model_who.2.1 8 = .ok (.ifCond .eq 16, 3) := by decide +kernel
theorem k_Model_who_11 : decode Y_Model_who.2.1 11 = .ok (.aload_n 0, 1) := by decide +kernel
theorem k_Model_who_12 : decode Y_Model_who.2.1 12 = .ok (.iload_n 1, 1) := by decide +kernel
theorem k_Model_who_13 : decode Y_Model_who.2.1 13 = .ok (.iconst 0, 1) := by decide +kernel
theorem k_Model_who_14 : decode Y_Model_who.2.1 14 = .ok (.sipush 400, 3) := by decide +kernel
theorem k_Model_who_17 : decode Y_Model_who.2.1 17 = .ok (.invokestatic 148, 3) := by decide +kernel
theorem k_Model_who_20 : decode Y_Model_who.2.1 20 = .ok (.invokevirtual 49, 3) := by decide +kernel
theorem k_Model_who_23 : decode Y_Model_who.2.1 23 = .ok (.ireturn, 1) := by decide +kernel
theorem k_Model_who_24 : decode Y_Model_who.2.1 24 = .ok (.iconst 0, 1) := by decide +kernel
theorem k_Model_who_25 : decode Y_Model_who.2.1 25 = .ok (.istore_n 2, 1) := by decide +kernel
theorem k_Model_who_26 : decode Y_Model_who.2.1 26 = .ok (.iconst 0, 1) := by decide +kernel
theorem k_Model_who_27 : decode Y_Model_who.2.1 27 = .ok (.istore_n 3, 1) := by decide +kernel
theorem k_Model_who_28 : decode Y_Model_who.2.1 28 = .ok (.iload_n 3, 1) := by decide +kernel
theorem k_Model_who_29 : decode Y_Model_who.2.1 29 = .ok (.aload_n 0, 1) := by decide +kernel
theorem k_Model_who_30 : decode Y_Model_who.2.1 30 = .ok (.getfield 13, 3) := by decide +kernel
theorem k_Model_who_33 : decode Y_Model_who.2.1 33 = .ok (.iconst 1, 1) := by decide +kernel
theorem k_Model_who_34 : decode Y_Model_who.2.1 34 = .ok (.iaload, 1) := by decide +kernel
theorem k_Model_who_35 : decode Y_Model_who.2.1 35 = .ok (.if_icmp .ge 34, 3) := by decide +kernel
theorem k_Model_who_38 : decode Y_Model_who.2.1 38 = .ok (.iload_n 2, 1) := by decide +kernel
theorem k_Model_who_39 : decode Y_Model_who.2.1 39 = .ok (.aload_n 0, 1) := by decide +kernel
theorem k_Model_who_40 : decode Y_Model_who.2.1 40 = .ok (.iload_n 3, 1) := by decide +kernel
theorem k_Model_who_41 : decode Y_Model_who.2.1 41 = .ok (.iload_n 1, 1) := by decide +kernel
theorem k_Model_who_42 : decode Y_Model_who.2.1 42 = .ok (.aload_n 0, 1) := by decide +kernel
theorem k_Model_who_43 : decode Y_Model_who.2.1 43 = .ok (.getfield 178, 3) := by decide +kernel
theorem k_Model_who_46 : decode Y_Model_who.2.1 46 = .ok (.invokevirtual 181, 3) := by decide +kernel
theorem k_Model_who_49 : decode Y_Model_who.2.1 49 = .ok (.bipush (-9), 2) := by decide +kernel
theorem k_Model_who_51 : decode Y_Model_who.2.1 51 = .ok (.if_icmp .ne 9, 3) := by decide +kernel
theorem k_Model_who_54 : decode Y_Model_who.2.1 54 = .ok (.iconst 1, 1) := by decide +kernel
theorem k_Model_who_55 : decode Y_Model_who.2.1 55 = .ok (.iload_n 3, 1) := by decide +kernel
theorem k_Model_who_56 : decode Y_Model_who.2.1 56 = .ok (.ishl, 1) := by decide +kernel
theorem k_Model_who_57 : decode Y_Model_who.2.1 57 = .ok (.goto 4, 3) := by decide +kernel
theorem k_Model_who_60 : decode Y_Model_who.2.1 60 = .ok (.iconst 0, 1) := by decide +kernel
theorem k_Model_who_61 : decode Y_Model_who.2.1 61 = .ok (.ior, 1) := by decide +kernel
theorem k_Model_who_62 : decode Y_Model_who.2.1 62 = .ok (.istore_n 2, 1) := by decide +kernel
theorem k_Model_who_63 : decode Y_Model_who.2.1 63 = .ok (.iinc 3 1, 3) := by decide +kernel
theorem k_Model_who_66 : decode Y_Model_who.2.1 66 = .ok (.goto (-38), 3) := by decide +kernel
theorem k_Model_who_69 : decode Y_Model_who.2.1 69 = .ok (.iload_n 2, 1) := by decide +kernel
theorem k_Model_who_70 : decode Y_Model_who.2.1 70 = .ok (.ireturn, 1) := by decide +kernel
theorem k_Model_judge_0 : decode Y_Model_judge.2.1 0 = .ok (.aload_n 0, 1) := by decide +kernel
theorem k_Model_judge_1 : decode Y_Model_judge.2.1 1 = .ok (.iload_n 1, 1) := by decide +kernel
theorem k_Model_judge_2 : decode Y_Model_judge.2.1 2 = .ok (.invokevirtual 141, 3) := by decide +kernel
theorem k_Model_judge_5 : decode Y_Model_judge.2.1 5 = .ok (.ifCond .eq 9, 3) := by decide +kernel
theorem k_Model_judge_8 : decode Y_Model_judge.2.1 8 = .ok (.aload_n 0, 1) := by decide +kernel
theorem k_Model_judge_9 : decode Y_Model_judge.2.1 9 = .ok (.iconst (-1), 1) := by decide +kernel
theorem k_Model_judge_10 : decode Y_Model_judge.2.1 10 = .ok (.invokevirtual 49, 3) := by decide +kernel
theorem k_Model_judge_13 : decode Y_Model_judge.2.1 13 = .ok (.ireturn, 1) := by decide +kernel
theorem k_Model_judge_14 : decode Y_Model_judge.2.1 14 = .ok (.iload_n 2, 1) := by decide +kernel
theorem k_Model_judge_15 : decode Y_Model_judge.2.1 15 = .ok (.iconst 0, 1) := by decide +kernel
theorem k_Model_judge_16 : decode Y_Model_judge.2.1 16 = .ok (.sipush 400, 3) := by decide +kernel
theorem k_Model_judge_19 : decode Y_Model_judge.2.1 19 = .ok (.invokestatic 148, 3) := by decide +kernel
theorem k_Model_judge_22 : decode Y_Model_judge.2.1 22 = .ok (.ifCond .eq 16, 3) := by decide +kernel
theorem k_Model_judge_25 : decode Y_Model_judge.2.1 25 = .ok (.aload_n 0, 1) := by decide +kernel
theorem k_Model_judge_26 : decode Y_Model_judge.2.1 26 = .ok (.iload_n 2, 1) := by decide +kernel
theorem k_Model_judge_27 : decode Y_Model_judge.2.1 27 = .ok (.iconst 0, 1) := by decide +kernel
theorem k_Model_judge_28 : decode Y_Model_judge.2.1 28 = .ok (.sipush 400, 3) := by decide +kernel
theorem k_Model_judge_31 : decode Y_Model_judge.2.1 31 = .ok (.invokestatic 148, 3) := by decide +kernel
theorem k_Model_judge_34 : decode Y_Model_judge.2.1 34 = .ok (.invokevirtual 49, 3) := by decide +kernel
theorem k_Model_judge_37 : decode Y_Model_judge.2.1 37 = .ok (.ireturn, 1) := by decide +kernel
theorem k_Model_judge_38 : decode Y_Model_judge.2.1 38 = .ok (.aload_n 0, 1) := by decide +kernel
theorem k_Model_judge_39 : decode Y_Model_judge.2.1 39 = .ok (.getfield 178, 3) := by decide +kernel
theorem k_Model_judge_42 : decode Y_Model_judge.2.1 42 = .ok (.istore_n 3, 1) := by decide +kernel
theorem k_Model_judge_43 : decode Y_Model_judge.2.1 43 = .ok (.aload_n 0, 1) := by decide +kernel
theorem k_Model_judge_44 : decode Y_Model_judge.2.1 44 = .ok (.iconst 0, 1) := by decide +kernel
theorem k_Model_judge_45 : decode Y_Model_judge.2.1 45 = .ok (.putfield 178, 3) := by decide +kernel
theorem k_Model_judge_48 : decode Y_Model_judge.2.1 48 = .ok (.aload_n 0, 1) := by decide +kernel
theorem k_Model_judge_49 : decode Y_Model_judge.2.1 49 = .ok (.iload_n 1, 1) := by decide +kernel
theorem k_Model_judge_50 : decode Y_Model_judge.2.1 50 = .ok (.iload_n 2, 1) := by decide +kernel
theorem k_Model_judge_51 : decode Y_Model_judge.2.1 51 = .ok (.iload_n 3, 1) := by decide +kernel
theorem k_Model_judge_52 : decode Y_Model_judge.2.1 52 = .ok (.invokevirtual 181, 3) := by decide +kernel
theorem k_Model_judge_55 : decode Y_Model_judge.2.1 55 = .ok (.ireturn, 1) := by decide +kernel
theorem k_Model_seeds_0 : decode Y_Model_seeds.2.1 0 = .ok (.iload_n 1, 1) := by decide +kernel
theorem k_Model_seeds_1 : decode Y_Model_seeds.2.1 1 = .ok (.iconst 1, 1) := by decide +kernel
theorem k_Model_seeds_2 : decode Y_Model_seeds.2.1 2 = .ok (.bipush 20, 2) := by decide +kernel
theorem k_Model_seeds_4 : decode Y_Model_seeds.2.1 4 = .ok (.invokestatic 148, 3) := by decide +kernel
theorem k_Model_seeds_7 : decode Y_Model_seeds.2.1 7 = .ok (.ifCond .eq 15, 3) := by decide +kernel
theorem k_Model_seeds_10 : decode Y_Model_seeds.2.1 10 = .ok (.aload_n 0, 1) := by decide +kernel
theorem k_Model_seeds_11 : decode Y_Model_seeds.2.1 11 = .ok (.iload_n 1, 1) := by decide +kernel
theorem k_Model_seeds_12 : decode Y_Model_seeds.2.1 12 = .ok (.iconst 1, 1) := by decide +kernel
theorem k_Model_seeds_13 : decode Y_Model_seeds.2.1 13 = .ok (.bipush 20, 2) := by decide +kernel
theorem k_Model_seeds_15 : decode Y_Model_seeds.2.1 15 = .ok (.invokestatic 148, 3) := by decide +kernel
theorem k_Model_seeds_18 : decode Y_Model_seeds.2.1 18 = .ok (.invokevirtual 49, 3) := by decide +kernel
theorem k_Model_seeds_21 : decode Y_Model_seeds.2.1 21 = .ok (.ireturn, 1) := by decide +kernel
theorem k_Model_seeds_22 : decode Y_Model_seeds.2.1 22 = .ok (.aload_n 0, 1) := by decide +kernel
theorem k_Model_seeds_23 : decode Y_Model_seeds.2.1 23 = .ok (.getfield 13, 3) := by decide +kernel
theorem k_Model_seeds_26 : decode Y_Model_seeds.2.1 26 = .ok (.aload_n 0, 1) := by decide +kernel
theorem k_Model_seeds_27 : decode Y_Model_seeds.2.1 27 = .ok (.getfield 19, 3) := by decide +kernel
theorem k_Model_seeds_30 : decode Y_Model_seeds.2.1 30 = .ok (.invokestatic 45, 3) := by decide +kernel
theorem k_Model_seeds_33 : decode Y_Model_seeds.2.1 33 = .ok (.iload_n 2, 1) := by decide +kernel
theorem k_Model_seeds_34 : decode Y_Model_seeds.2.1 34 = .ok (.istore_n 3, 1) := by decide +kernel
theorem k_Model_seeds_35 : decode Y_Model_seeds.2.1 35 = .ok (.iconst 0, 1) := by decide +kernel
theorem k_Model_seeds_36 : decode Y_Model_seeds.2.1 36 = .ok (.istore 4, 2) := by decide +kernel
theorem k_Model_seeds_38 : decode Y_Model_seeds.2.1 38 = .ok (.iconst 0, 1) := by decide +kernel
theorem k_Model_seeds_39 : decode Y_Model_seeds.2.1 39 = .ok (.istore 5, 2) := by decide +kernel
theorem k_Model_seeds_41 : decode Y_Model_seeds.2.1 41 = .ok (.iload 5, 2) := by decide +kernel
theorem k_Model_seeds_43 : decode Y_Model_seeds.2.1 43 = .ok (.iload_n 1, 1) := by decide +kernel
theorem k_Model_seeds_44 : decode Y_Model_seeds.2.1 44 = .ok (.if_icmp .ge 75, 3) := by decide +kernel
theorem k_Model_seeds_47 : decode Y_Model_seeds.2.1 47 = .ok (.iconst 0, 1) := by decide +kernel
theorem k_Model_seeds_48 : decode Y_Model_seeds.2.1 48 = .ok (.istore 6, 2) := by decide +kernel
theorem k_Model_seeds_50 : decode Y_Model_seeds.2.1 50 = .ok (.iload 6, 2) := by decide +kernel
theorem k_Model_seeds_52 : decode Y_Model_seeds.2.1 52 = .ok (.aload_n 0, 1) := by decide +kernel
theorem k_Model_seeds_53 : decode Y_Model_seeds.2.1 53 = .ok (.getfield 13, 3) := by decide +kernel
theorem k_Model_seeds_56 : decode Y_Model_seeds.2.1 56 = .ok (.iconst 0, 1) := by decide +kernel
theorem k_Model_seeds_57 : decode Y_Model_seeds.2.1 57 = .ok (.iaload, 1) := by decide +kernel
theorem k_Model_seeds_58 : decode Y_Model_seeds.2.1 58 = .ok (.if_icmp .ge 38, 3) := by decide +kernel
theorem k_Model_seeds_61 : decode Y_Model_seeds.2.1 61 = .ok (.iload_n 3, 1) := by decide +kernel
theorem k_Model_seeds_62 : decode Y_Model_seeds.2.1 62 = .ok (.ldc 184, 2) := by decide +kernel
theorem k_Model_seeds_64 : decode Y_Model_seeds.2.1 64 = .ok (.imul, 1) := by decide +kernel
theorem k_Model_seeds_65 : decode Y_Model_seeds.2.1 65 = .ok (.ldc 185, 2) := by decide +kernel
theorem k_Model_seeds_67 : decode Y_Model_seeds.2.1 67 = .ok (.iadd, 1) := by decide +kernel
theorem k_Model_seeds_68 : decode Y_Model_seeds.2.1 68 = .ok (.istore_n 3, 1) := by decide +kernel
theorem k_Model_seeds_69 : decode Y_Model_seeds.2.1 69 = .ok (.aload_n 0, 1) := by decide +kernel
theorem k_Model_seeds_70 : decode Y_Model_seeds.2.1 70 = .ok (.getfield 13, 3) := by decide +kernel
theorem k_Model_seeds_73 : decode Y_Model_seeds.2.1 73 = .ok (.bipush 10, 2) := by decide +kernel
theorem k_Model_seeds_75 : decode Y_Model_seeds.2.1 75 = .ok (.iload 6, 2) := by decide +kernel
theorem k_Model_seeds_77 : decode Y_Model_seeds.2.1 77 = .ok (.iadd, 1) := by decide +kernel
theorem k_Model_seeds_78 : decode Y_Model_seeds.2.1 78 = .ok (.iload_n 3, 1) := by decide +kernel
theorem k_Model_seeds_79 : decode Y_Model_seeds.2.1 79 = .ok (.ldc 186, 2) := by decide +kernel
theorem k_Model_seeds_81 : decode Y_Model_seeds.2.1 81 = .ok (.iand, 1) := by decide +kernel
theorem k_Model_seeds_82 : decode Y_Model_seeds.2.1 82 = .ok (.sipush 256, 3) := by decide +kernel
theorem k_Model_seeds_85 : decode Y_Model_seeds.2.1 85 = .ok (.idiv, 1) := by decide +kernel
theorem k_Model_seeds_86 : decode Y_Model_seeds.2.1 86 = .ok (.bipush 10, 2) := by decide +kernel
theorem k_Model_seeds_88 : decode Y_Model_seeds.2.1 88 = .ok (.irem, 1) := by decide +kernel
theorem k_Model_seeds_89 : decode Y_Model_seeds.2.1 89 = .ok (.iastore, 1) := by decide +kernel
theorem k_Model_seeds_90 : decode Y_Model_seeds.2.1 90 = .ok (.iinc 6 1, 3) := by decide +kernel
theorem k_Model_seeds_93 : decode Y_Model_seeds.2.1 93 = .ok (.goto (-43), 3) := by decide +kernel
theorem k_Model_seeds_96 : decode Y_Model_seeds.2.1 96 = .ok (.iload 4, 2) := by decide +kernel
theorem k_Model_seeds_98 : decode Y_Model_seeds.2.1 98 = .ok (.aload_n 0, 1) := by decide +kernel
theorem k_Model_seeds_99 : decode Y_Model_seeds.2.1 99 = .ok (.invokevirtual 159, 3) := by decide +kernel
theorem k_Model_seeds_102 : decode Y_Model_seeds.2.1 102 = .ok (.ifCond .eq 7, 3) := by decide +kernel
theorem k_Model_seeds_105 : decode Y_Model_seeds.2.1 105 = .ok (.iconst 1, 1) := by decide +kernel
theorem k_Model_seeds_106 : decode Y_Model_seeds.2.1 106 = .ok (.goto 4, 3) := by decide +kernel
theorem k_Model_seeds_109 : decode Y_Model_seeds.2.1 109 = .ok (.iconst 0, 1) := by decide +kernel
theorem k_Model_seeds_110 : decode Y_Model_seeds.2.1 110 = .ok (.iadd, 1) := by decide +kernel
theorem k_Model_seeds_111 : decode Y_Model_seeds.2.1 111 = .ok (.istore 4, 2) := by decide +kernel
theorem k_Model_seeds_113 : decode Y_Model_seeds.2.1 113 = .ok (.iinc 5 1, 3) := by decide +kernel
theorem k_Model_seeds_116 : decode Y_Model_seeds.2.1 116 = .ok (.goto (-75), 3) := by decide +kernel
theorem k_Model_seeds_119 : decode Y_Model_seeds.2.1 119 = .ok (.aload_n 0, 1) := by decide +kernel
theorem k_Model_seeds_120 : decode Y_Model_seeds.2.1 120 = .ok (.getfield 19, 3) := by decide +kernel
theorem k_Model_seeds_123 : decode Y_Model_seeds.2.1 123 = .ok (.aload_n 0, 1) := by decide +kernel
theorem k_Model_seeds_124 : decode Y_Model_seeds.2.1 124 = .ok (.getfield 13, 3) := by decide +kernel
theorem k_Model_seeds_127 : decode Y_Model_seeds.2.1 127 = .ok (.invokestatic 45, 3) := by decide +kernel
theorem k_Model_seeds_130 : decode Y_Model_seeds.2.1 130 = .ok (.iload 4, 2) := by decide +kernel
theorem k_Model_seeds_132 : decode Y_Model_seeds.2.1 132 = .ok (.ireturn, 1) := by decide +kernel
theorem k_Model_count_0 : decode Y_Model_count.2.1 0 = .ok (.iload_n 1, 1) := by decide +kernel
theorem k_Model_count_1 : decode Y_Model_count.2.1 1 = .ok (.tableswitch 106 0 8 #[51, 58, 65, 70, 75, 82, 89, 96, 101], 51) := by decide +kernel
theorem k_Model_count_52 : decode Y_Model_count.2.1 52 = .ok (.aload_n 0, 1) := by decide +kernel
theorem k_Model_count_53 : decode Y_Model_count.2.1 53 = .ok (.getfield 13, 3) := by decide +kernel
theorem k_Model_count_56 : decode Y_Model_count.2.1 56 = .ok (.iconst 0, 1) := by decide +kernel
theorem k_Model_count_57 : decode Y_Model_count.2.1 57 = .ok (.iaload, 1) := by decide +kernel
theorem k_Model_count_58 : decode Y_Model_count.2.1 58 = .ok (.ireturn, 1) := by decide +kernel
theorem k_Model_count_59 : decode Y_Model_count.2.1 59 = .ok (.aload_n 0, 1) := by decide +kernel
theorem k_Model_count_60 : decode Y_Model_count.2.1 60 = .ok (.getfield 13, 3) := by decide +kernel
theorem k_Model_count_63 : decode Y_Model_count.2.1 63 = .ok (.iconst 1, 1) := by decide +kernel
theorem k_Model_count_64 : decode Y_Model_count.2.1 64 = .ok (.iaload, 1) := by decide +kernel
theorem k_Model_count_65 : decode Y_Model_count.2.1 65 = .ok (.ireturn, 1) := by decide +kernel
theorem k_Model_count_66 : decode Y_Model_count.2.1 66 = .ok (.aload_n 0, 1) := by decide +kernel
theorem k_Model_count_67 : decode Y_Model_count.2.1 67 = .ok (.invokevirtual 94, 3) := by decide +kernel
theorem k_Model_count_70 : decode Y_Model_count.2.1 70 = .ok (.ireturn, 1) := by decide +kernel
theorem k_Model_count_71 : decode Y_Model_count.2.1 71 = .ok (.aload_n 0, 1) := by decide +kernel
theorem k_Model_count_72 : decode Y_Model_count.2.1 72 = .ok (.invokevirtual 131, 3) := by decide +kernel
theorem k_Model_count_75 : decode Y_Model_count.2.1 75 = .ok (.ireturn, 1) := by decide +kernel
theorem k_Model_count_76 : decode Y_Model_count.2.1 76 = .ok (.aload_n 0, 1) := by decide +kernel
theorem k_Model_count_77 : decode Y_Model_count.2.1 77 = .ok (.getfield 13, 3) := by decide +kernel
theorem k_Model_count_80 : decode Y_Model_count.2.1 80 = .ok (.iconst 2, 1) := by decide +kernel
theorem k_Model_count_81 : decode Y_Model_count.2.1 81 = .ok (.iaload, 1) := by decide +kernel
theorem k_Model_count_82 : decode Y_Model_count.2.1 82 = .ok (.ireturn, 1) := by decide +kernel
theorem k_Model_count_83 : decode Y_Model_count.2.1 83 = .ok (.aload_n 0, 1) := by decide +kernel
theorem k_Model_count_84 : decode Y_Model_count.2.1 84 = .ok (.getfield 13, 3) := by decide +kernel
theorem k_Model_count_87 : decode Y_Model_count.2.1 87 = .ok (.iconst 3, 1) := by decide +kernel
theorem k_Model_count_88 : decode Y_Model_count.2.1 88 = .ok (.iaload, 1) := by decide +kernel
theorem k_Model_count_89 : decode Y_Model_count.2.1 89 = .ok (.ireturn, 1) := by decide +kernel
theorem k_Model_count_90 : decode Y_Model_count.2.1 90 = .ok (.aload_n 0, 1) := by decide +kernel
theorem k_Model_count_91 : decode Y_Model_count.2.1 91 = .ok (.getfield 13, 3) := by decide +kernel
theorem k_Model_count_94 : decode Y_Model_count.2.1 94 = .ok (.iconst 4, 1) := by decide +kernel
theorem k_Model_count_95 : decode Y_Model_count.2.1 95 = .ok (.iaload, 1) := by decide +kernel
theorem k_Model_count_96 : decode Y_Model_count.2.1 96 = .ok (.ireturn, 1) := by decide +kernel
theorem k_Model_count_97 : decode Y_Model_count.2.1 97 = .ok (.aload_n 0, 1) := by decide +kernel
theorem k_Model_count_98 : decode Y_Model_count.2.1 98 = .ok (.getfield 178, 3) := by decide +kernel
theorem k_Model_count_101 : decode Y_Model_count.2.1 101 = .ok (.ireturn, 1) := by decide +kernel
theorem k_Model_count_102 : decode Y_Model_count.2.1 102 = .ok (.aload_n 0, 1) := by decide +kernel
theorem k_Model_count_103 : decode Y_Model_count.2.1 103 = .ok (.getfield 53, 3) := by decide +kernel
theorem k_Model_count_106 : decode Y_Model_count.2.1 106 = .ok (.ireturn, 1) := by decide +kernel
theorem k_Model_count_107 : decode Y_Model_count.2.1 107 = .ok (.iload_n 1, 1) := by decide +kernel
theorem k_Model_count_108 : decode Y_Model_count.2.1 108 = .ok (.bipush 11, 2) := by decide +kernel
theorem k_Model_count_110 : decode Y_Model_count.2.1 110 = .ok (.if_icmp .lt 21, 3) := by decide +kernel
theorem k_Model_count_113 : decode Y_Model_count.2.1 113 = .ok (.iload_n 1, 1) := by decide +kernel
theorem k_Model_count_114 : decode Y_Model_count.2.1 114 = .ok (.bipush 16, 2) := by decide +kernel
theorem k_Model_count_116 : decode Y_Model_count.2.1 116 = .ok (.if_icmp .gt 15, 3) := by decide +kernel
theorem k_Model_count_119 : decode Y_Model_count.2.1 119 = .ok (.aload_n 0, 1) := by decide +kernel
theorem k_Model_count_120 : decode Y_Model_count.2.1 120 = .ok (.getfield 1, 3) := by decide +kernel
theorem k_Model_count_123 : decode Y_Model_count.2.1 123 = .ok (.iload_n 1, 1) := by decide +kernel
theorem k_Model_count_124 : decode Y_Model_count.2.1 124 = .ok (.bipush 10, 2) := by decide +kernel
theorem k_Model_count_126 : decode Y_Model_count.2.1 126 = .ok (.isub, 1) := by decide +kernel
theorem k_Model_count_127 : decode Y_Model_count.2.1 127 = .ok (.iaload, 1) := by decide +kernel
theorem k_Model_count_128 : decode Y_Model_count.2.1 128 = .ok (.goto 5, 3) := by decide +kernel
theorem k_Model_count_131 : decode Y_Model_count.2.1 131 = .ok (.bipush (-9), 2) := by decide +kernel
theorem k_Model_count_133 : decode Y_Model_count.2.1 133 = .ok (.ireturn, 1) := by decide +kernel
theorem k_String_length_0 : decode Y_String_length.2.1 0 = .ok (.aload_n 0, 1) := by decide +kernel
theorem k_String_length_1 : decode Y_String_length.2.1 1 = .ok (.getfield 9, 3) := by decide +kernel
theorem k_String_length_4 : decode Y_String_length.2.1 4 = .ok (.arraylength, 1) := by decide +kernel
theorem k_String_length_5 : decode Y_String_length.2.1 5 = .ok (.aload_n 0, 1) := by decide +kernel
theorem k_String_length_6 : decode Y_String_length.2.1 6 = .ok (.invokevirtual 335, 3) := by decide +kernel
theorem k_String_length_9 : decode Y_String_length.2.1 9 = .ok (.ishr, 1) := by decide +kernel
theorem k_String_length_10 : decode Y_String_length.2.1 10 = .ok (.ireturn, 1) := by decide +kernel
theorem k_String_charAt_0 : decode Y_String_charAt.2.1 0 = .ok (.aload_n 0, 1) := by decide +kernel
theorem k_String_charAt_1 : decode Y_String_charAt.2.1 1 = .ok (.invokevirtual 492, 3) := by decide +kernel
theorem k_String_charAt_4 : decode Y_String_charAt.2.1 4 = .ok (.ifCond .eq 12, 3) := by decide +kernel
theorem k_String_charAt_7 : decode Y_String_charAt.2.1 7 = .ok (.aload_n 0, 1) := by decide +kernel
theorem k_String_charAt_8 : decode Y_String_charAt.2.1 8 = .ok (.getfield 9, 3) := by decide +kernel
theorem k_String_charAt_11 : decode Y_String_charAt.2.1 11 = .ok (.iload_n 1, 1) := by decide +kernel
theorem k_String_charAt_12 : decode Y_String_charAt.2.1 12 = .ok (.invokestatic 495, 3) := by decide +kernel
theorem k_String_charAt_15 : decode Y_String_charAt.2.1 15 = .ok (.ireturn, 1) := by decide +kernel
theorem k_String_charAt_16 : decode Y_String_charAt.2.1 16 = .ok (.aload_n 0, 1) := by decide +kernel
theorem k_String_charAt_17 : decode Y_String_charAt.2.1 17 = .ok (.getfield 9, 3) := by decide +kernel
theorem k_String_charAt_20 : decode Y_String_charAt.2.1 20 = .ok (.iload_n 1, 1) := by decide +kernel
theorem k_String_charAt_21 : decode Y_String_charAt.2.1 21 = .ok (.invokestatic 498, 3) := by decide +kernel
theorem k_String_charAt_24 : decode Y_String_charAt.2.1 24 = .ok (.ireturn, 1) := by decide +kernel
theorem k_String_coder_0 : decode Y_String_coder.2.1 0 = .ok (.getstatic 38, 3) := by decide +kernel
theorem k_String_coder_3 : decode Y_String_coder.2.1 3 = .ok (.ifCond .eq 10, 3) := by decide +kernel
theorem k_String_coder_6 : decode Y_String_coder.2.1 6 = .ok (.aload_n 0, 1) := by decide +kernel
theorem k_String_coder_7 : decode Y_String_coder.2.1 7 = .ok (.getfield 15, 3) := by decide +kernel
theorem k_String_coder_10 : decode Y_String_coder.2.1 10 = .ok (.goto 4, 3) := by decide +kernel
theorem k_String_coder_13 : decode Y_String_coder.2.1 13 = .ok (.iconst 1, 1) := by decide +kernel
theorem k_String_coder_14 : decode Y_String_coder.2.1 14 = .ok (.ireturn, 1) := by decide +kernel
theorem k_String_isLatin1_0 : decode Y_String_isLatin1.2.1 0 = .ok (.getstatic 38, 3) := by decide +kernel
theorem k_String_isLatin1_3 : decode Y_String_isLatin1.2.1 3 = .ok (.ifCond .eq 14, 3) := by decide +kernel
theorem k_String_isLatin1_6 : decode Y_String_isLatin1.2.1 6 = .ok (.aload_n 0, 1) := by decide +kernel
theorem k_String_isLatin1_7 : decode Y_String_isLatin1.2.1 7 = .ok (.getfield 15, 3) := by decide +kernel
theorem k_String_isLatin1_10 : decode Y_String_isLatin1.2.1 10 = .ok (.ifCond .ne 7, 3) := by decide +kernel
theorem k_String_isLatin1_13 : decode Y_String_isLatin1.2.1 13 = .ok (.iconst 1, 1) := by decide +kernel
theorem k_String_isLatin1_14 : decode Y_String_isLatin1.2.1 14 = .ok (.goto 4, 3) := by decide +kernel
theorem k_String_isLatin1_17 : decode Y_String_isLatin1.2.1 17 = .ok (.iconst 0, 1) := by decide +kernel
theorem k_String_isLatin1_18 : decode Y_String_isLatin1.2.1 18 = .ok (.ireturn, 1) := by decide +kernel
theorem k_String_checkIndex_0 : decode Y_String_checkIndex.2.1 0 = .ok (.iload_n 0, 1) := by decide +kernel
theorem k_String_checkIndex_1 : decode Y_String_checkIndex.2.1 1 = .ok (.iload_n 1, 1) := by decide +kernel
theorem k_String_checkIndex_2 : decode Y_String_checkIndex.2.1 2 = .ok (.getstatic 1053, 3) := by decide +kernel
theorem k_String_checkIndex_5 : decode Y_String_checkIndex.2.1 5 = .ok (.invokestatic 1059, 3) := by decide +kernel
theorem k_String_checkIndex_8 : decode Y_String_checkIndex.2.1 8 = .ok (.pop, 1) := by decide +kernel
theorem k_String_checkIndex_9 : decode Y_String_checkIndex.2.1 9 = .ok (.return_, 1) := by decide +kernel
theorem k_Latin1_charAt_0 : decode Y_Latin1_charAt.2.1 0 = .ok (.iload_n 1, 1) := by decide +kernel
theorem k_Latin1_charAt_1 : decode Y_Latin1_charAt.2.1 1 = .ok (.aload_n 0, 1) := by decide +kernel
theorem k_Latin1_charAt_2 : decode Y_Latin1_charAt.2.1 2 = .ok (.arraylength, 1) := by decide +kernel
theorem k_Latin1_charAt_3 : decode Y_Latin1_charAt.2.1 3 = .ok (.invokestatic 9, 3) := by decide +kernel
theorem k_Latin1_charAt_6 : decode Y_Latin1_charAt.2.1 6 = .ok (.aload_n 0, 1) := by decide +kernel
theorem k_Latin1_charAt_7 : decode Y_Latin1_charAt.2.1 7 = .ok (.iload_n 1, 1) := by decide +kernel
theorem k_Latin1_charAt_8 : decode Y_Latin1_charAt.2.1 8 = .ok (.baload, 1) := by decide +kernel
theorem k_Latin1_charAt_9 : decode Y_Latin1_charAt.2.1 9 = .ok (.sipush 255, 3) := by decide +kernel
theorem k_Latin1_charAt_12 : decode Y_Latin1_charAt.2.1 12 = .ok (.iand, 1) := by decide +kernel
theorem k_Latin1_charAt_13 : decode Y_Latin1_charAt.2.1 13 = .ok (.i2c, 1) := by decide +kernel
theorem k_Latin1_charAt_14 : decode Y_Latin1_charAt.2.1 14 = .ok (.ireturn, 1) := by decide +kernel
theorem k_Precond_checkIndex_0 : decode Y_Precond_checkIndex.2.1 0 = .ok (.iload_n 0, 1) := by decide +kernel
theorem k_Precond_checkIndex_1 : decode Y_Precond_checkIndex.2.1 1 = .ok (.ifCond .lt 8, 3) := by decide +kernel
theorem k_Precond_checkIndex_4 : decode Y_Precond_checkIndex.2.1 4 = .ok (.iload_n 0, 1) := by decide +kernel
theorem k_Precond_checkIndex_5 : decode Y_Precond_checkIndex.2.1 5 = .ok (.iload_n 1, 1) := by decide +kernel
theorem k_Precond_checkIndex_6 : decode Y_Precond_checkIndex.2.1 6 = .ok (.if_icmp .lt 10, 3) := by decide +kernel
theorem k_Precond_checkIndex_9 : decode Y_Precond_checkIndex.2.1 9 = .ok (.aload_n 2, 1) := by decide +kernel
theorem k_Precond_checkIndex_10 : decode Y_Precond_checkIndex.2.1 10 = .ok (.iload_n 0, 1) := by decide +kernel
theorem k_Precond_checkIndex_11 : decode Y_Precond_checkIndex.2.1 11 = .ok (.iload_n 1, 1) := by decide +kernel
theorem k_Precond_checkIndex_12 : decode Y_Precond_checkIndex.2.1 12 = .ok (.invokestatic 95, 3) := by decide +kernel
theorem k_Precond_checkIndex_15 : decode Y_Precond_checkIndex.2.1 15 = .ok (.athrow, 1) := by decide +kernel
theorem k_Precond_checkIndex_16 : decode Y_Precond_checkIndex.2.1 16 = .ok (.iload_n 0, 1) := by decide +kernel
theorem k_Precond_checkIndex_17 : decode Y_Precond_checkIndex.2.1 17 = .ok (.ireturn, 1) := by decide +kernel
end
section
/-! stores that name the new heap; frames of the heap -/
section VS
variable {G : Gx} {Y : Yx} {d rc rs pc : Nat} {ls : List (Option AV)} {st : List AV} {h : AH} {F : Option AV → AH → Prop}
def Fr (lo hi : Nat) (h h' : AH) : Prop := h'.1 = h.1 ∧ ∀ q, (q < lo ∨ hi ≤ q) → h'.2 q = h.2 q
theorem Fr.rf {lo hi : Nat} {h : AH} : Fr lo hi h h := ⟨rfl, fun _ _ => rfl⟩
theorem Fr.tr {lo hi lo1 hi1 : Nat} {h h1 h2 : AH} (a : Fr lo hi h h1) (b : Fr lo1 hi1 h1 h2) (hl : lo ≤ lo1) (hh : hi1 ≤ hi) : Fr lo hi h h2 :=
  ⟨b.1.trans a.1, fun q hq => (b.2 q (by omega)).trans (a.2 q hq)⟩
theorem Fr.wd {lo hi lo1 hi1 : Nat} {h h1 : AH} (b : Fr lo1 hi1 h h1) (hl : lo ≤ lo1) (hh : hi1 ≤ hi) : Fr lo hi h h1 := Fr.tr Fr.rf b hl hh
theorem Fr.at {lo hi a : Nat} {x : Option AC} {h h1 : AH} (b : Fr lo hi h h1) (hx : h.2 a = x) (ha : a < lo ∨ hi ≤ a) : h1.2 a = x := (b.2 a ha).trans hx
theorem upA_fr (h : AH) (a : Nat) (c : AC) : Fr a (a + 1) h (upA h a c) := ⟨rfl, fun q hq => by simp [upA, show ¬ q = a by omega]⟩
theorem upA_at (h : AH) (a : Nat) (c : AC) : (upA h a c).2 a = some c := by simp [upA]
theorem v_put {a idx k j : Nat} {fs : List AV} {v : AV} (hl : FL Y.1.cls idx k j) (hh : h.2 a = some (aO k fs)) (hj : j < fs.length)
    (hfin : ∀ r : vw_C, cl[k]? = some r → ((r.2.1 j).2.2.2 = false ∨ ((r.2.1 j).2.2.2 = true ∧ Y.1.name = "<init>" ∧ (r.2.1 j).1 = Y.1.cls))) (hn : narrow (tyA k j) (cv G v) = cv G v) (hv : fits (tyA k j) (cv G v) = true) (hd : decode Y.2.1 pc = .ok (.putfield idx, 3))
    (K : ∀ h', h'.2 a = some (aO k (fs.set j v)) → Fr a (a + 1) h h' → V G Y d rc rs (pc + 3) ls st h' F) : V G Y d rc rs pc ls (v :: aR a :: st) h F :=
  v_putf hl hh hj hfin hn hv hd (K _ (upA_at _ _ _) (upA_fr _ _ _))
theorem v_ist {a : Nat} {i x : Int} {xs : List Int} (hh : h.2 a = some (aA 0 xs)) (hi : 0 ≤ i ∧ i < xs.length) (hz : xs.length ≤ 100000) (hd : decode Y.2.1 pc = .ok (.iastore, 1)) (K : ∀ h', h'.2 a = some (aA 0 (xs.set i.toNat x)) → Fr a (a + 1) h h' → V G Y d rc rs (pc + 1) ls st h' F) : V G Y d rc rs pc ls (aI x :: aI i :: aR a :: st) h F :=
  v_iast hh hi hz hd (K _ (upA_at _ _ _) (upA_fr _ _ _))
theorem v_lst {a : Nat} {i x : Int} {xs : List Int} (hh : h.2 a = some (aA 1 xs)) (hi : 0 ≤ i ∧ i < xs.length) (hz : xs.length ≤ 100000) (hd : decode Y.2.1 pc = .ok (.lastore, 1)) (K : ∀ h', h'.2 a = some (aA 1 (xs.set i.toNat x)) → Fr a (a + 1) h h' → V G Y d rc rs (pc + 1) ls st h' F) : V G Y d rc rs pc ls (aJ x :: aI i :: aR a :: st) h F :=
  v_last hh hi hz hd (K _ (upA_at _ _ _) (upA_fr _ _ _))
theorem v_cst {a : Nat} {i x : Int} {xs : List Int} (hh : h.2 a = some (aA 2 xs)) (hi : 0 ≤ i ∧ i < xs.length) (hz : xs.length ≤ 100000) (hn : narrow .char (.int (Int32.ofInt x)) = .int (Int32.ofInt x)) (hd : decode Y.2.1 pc = .ok (.castore, 1)) (K : ∀ h', h'.2 a = some (aA 2 (xs.set i.toNat x)) → Fr a (a + 1) h h' → V G Y d rc rs (pc + 1) ls st h' F) : V G Y d rc rs pc ls (aI x :: aI i :: aR a :: st) h F :=
  v_cast hh hi hz hn hd (K _ (upA_at _ _ _) (upA_fr _ _ _))
/-- a new cell: all that was stays -/
def Mk (h h' : AH) (c : AC) : Prop := h'.1 = h.1 + 1 ∧ h'.2 h.1 = some c ∧ ∀ q, q ≠ h.1 → h'.2 q = h.2 q
theorem psA_mk (h : AH) (c : AC) : Mk h (psA h c) c := ⟨rfl, by simp [psA], fun q hq => by simp [psA, hq]⟩
theorem v_nw {idx k N : Nat} {C : String} {T : u_T} {fs : List AV} (hk : cl[k]? = some (C, T, N)) (hcl : Cond.classLink Y.1.cls idx C ∈ wsAll) (hins : Cond.instantiable C N ∈ wsAll) (hini : Cond.initialized C ∈ wsAll)
    (hfs : ∀ j, j < N → defaultValue (tyA k j) = vp_V (cS G fs) j) (hd : decode Y.2.1 pc = .ok (.new idx, 3)) (K : ∀ h', Mk h h' (aO k fs) → V G Y d rc rs (pc + 3) ls (aR h.1 :: st) h' F) : V G Y d (rc + 1) (rs + N) pc ls st h F :=
  v_new hk hcl hins hini hfs hd (K _ (psA_mk _ _))
theorem v_nwa {t : Nat} {n : Int} {aty0 : ArrayType} (ht : t < 3) (hat : newarray.typeOf aty0 = aty t) (hw : Cond.arrayClass (aty t) ∈ wsAll) (hn : 0 ≤ n ∧ n ≤ 10000) (hd : decode Y.2.1 pc = .ok (.newarray aty0, 2)) (K : ∀ h', Mk h h' (aA t (List.replicate n.toNat 0)) → V G Y d rc rs (pc + 2) ls (aR h.1 :: st) h' F) : V G Y d (rc + 1) (rs + n.toNat) pc ls (aI n :: st) h F :=
  v_newa ht hat hw hn hd (K _ (psA_mk _ _))
end VS
/-! pictures: a row of numbers, its array behind it -/
def pRow (h : AH) (o room : Nat) (xs : List Int) : Prop := ∃ cs : List Int, h.2 o = some (aO 3 [aR (o + 1), aI xs.length]) ∧ h.2 (o + 1) = some (aA 0 cs) ∧ cs.length = room ∧ xs.length ≤ room ∧ room ≤ 10000 ∧ cs.take xs.length = xs
theorem pRow.fr {h h' : AH} {o room lo hi : Nat} {xs : List Int} (p : pRow h o room xs) (f : Fr lo hi h h') (ha : o + 2 ≤ lo ∨ hi ≤ o) : pRow h' o room xs := by
  obtain ⟨cs, h1, h2, h3⟩ := p
  exact ⟨cs, f.at h1 (by omega), f.at h2 (by omega), h3⟩
/-- a number of a row; 0 outside -/
def rget (xs : List Int) (i : Int) : Int := if 0 ≤ i ∧ i < xs.length then xs.getD i.toNat 0 else 0
theorem take_get {cs xs : List Int} {n : Nat} (h : cs.take n = xs) {i : Nat} (hi : i < n) : cs.getD i 0 = xs.getD i 0 := by
  subst h
  simp [List.getD_eq_getElem?_getD, List.getElem?_take, hi]
end
section
def rset (xs : List Int) (i x : Int) : List Int := if 0 ≤ i ∧ i < xs.length then xs.set i.toNat x else xs
def radd (room : Nat) (xs : List Int) (x : Int) : List Int := if xs.length < room then xs ++ [x] else xs
theorem take_snoc {cs xs : List Int} {x : Int} (h : cs.take xs.length = xs) (hl : xs.length < cs.length) : (cs.set xs.length x).take (xs ++ [x]).length = xs ++ [x] := by
  rw [List.length_append, List.length_singleton, List.take_add_one, List.take_set_of_le (Nat.le_refl _), h, List.getElem?_set_self hl]
  rfl
set_option maxHeartbeats 4000000 in
set_option maxRecDepth 20000 in
theorem c_Row_size (G : Gx) {h : AH} {o room : Nat} {xs : List Int} (hp : pRow h o room xs) : Ct G Y_Row_size 0 0 0 [aR o] h (isR (some (aI xs.length)) h) := by
  obtain ⟨cs, r1, r2, r3, r4, r6, r5⟩ := id hp
  refine Ct.of_V mo_Row_size rfl (Nat.le_of_ble_eq_true rfl) rfl ?_
  refine v_aload_n k_Row_size_0 rfl ?_
  refine v_getf fl_Row_7 r1 rfl k_Row_size_1 ?_
  refine v_ireturn k_Row_size_4 rfl rfl ?_
  exact ⟨rfl, rfl⟩

set_option maxHeartbeats 4000000 in
set_option maxRecDepth 20000 in
theorem c_Row_has (G : Gx) {h : AH} {o room : Nat} {xs : List Int} (hp : pRow h o room xs) {i : Int} (hi : InR i) : Ct G Y_Row_has 0 0 0 [aR o, aI i] h (isR (some (aI (if 0 ≤ i ∧ i < xs.length then 1 else 0))) h) := by
  obtain ⟨cs, r1, r2, r3, r4, r6, r5⟩ := id hp
  refine Ct.of_V mo_Row_has rfl (Nat.le_of_ble_eq_true rfl) rfl ?_
  refine v_iload_n k_Row_has_0 rfl ?_
  refine v_iflt 25 k_Row_has_1 rfl (by omega) (fun c1 => ?_) (fun c1 => ?_)
  · refine v_iconst k_Row_has_25 ?_
    refine v_ireturn k_Row_has_26 rfl (by first | rfl | (split <;> rfl)) ?_
    first
      | (exfalso; omega)
      | exact ⟨by rw [if_pos (by omega)], rfl⟩
      | exact ⟨by rw [if_neg (by omega)], rfl⟩
  · refine v_iload_n k_Row_has_4 rfl ?_
    refine v_aload_n k_Row_has_5 rfl ?_
    refine v_getf fl_Row_7 r1 rfl k_Row_has_6 ?_
    refine v_icge 25 k_Row_has_9 rfl (by omega) (by omega) (fun c9 => ?_) (fun c9 => ?_)
    · refine v_iconst k_Row_has_25 ?_
      refine v_ireturn k_Row_has_26 rfl (by first | rfl | (split <;> rfl)) ?_
      first
        | (exfalso; omega)
        | exact ⟨by rw [if_pos (by omega)], rfl⟩
        | exact ⟨by rw [if_neg (by omega)], rfl⟩
    · refine v_iload_n k_Row_has_12 rfl ?_
      refine v_aload_n k_Row_has_13 rfl ?_
      refine v_getf fl_Row_13 r1 rfl k_Row_has_14 ?_
      refine v_alen (by decide) r2 k_Row_has_17 ?_
      refine v_icge 25 k_Row_has_18 rfl (by omega) (by omega) (fun c18 => ?_) (fun c18 => ?_)
      · refine v_iconst k_Row_has_25 ?_
        refine v_ireturn k_Row_has_26 rfl (by first | rfl | (split <;> rfl)) ?_
        first
          | (exfalso; omega)
          | exact ⟨by rw [if_pos (by omega)], rfl⟩
          | exact ⟨by rw [if_neg (by omega)], rfl⟩
      · refine v_iconst k_Row_has_21 ?_
        refine v_goto k_Row_has_22 (tgt := 26) rfl ?_
        refine v_ireturn k_Row_has_26 rfl (by first | rfl | (split <;> rfl)) ?_
        first
          | (exfalso; omega)
          | exact ⟨by rw [if_pos (by omega)], rfl⟩
          | exact ⟨by rw [if_neg (by omega)], rfl⟩

set_option maxHeartbeats 4000000 in
set_option maxRecDepth 20000 in
theorem c_Row_get (G : Gx) {h : AH} {o room : Nat} {xs : List Int} (hp : pRow h o room xs) {i : Int} (hi : InR i) : Ct G Y_Row_get 0 0 0 [aR o, aI i] h (isR (some (aI (rget xs i))) h) := by
  obtain ⟨cs, r1, r2, r3, r4, r6, r5⟩ := id hp
  refine Ct.of_V mo_Row_get rfl (Nat.le_of_ble_eq_true rfl) rfl ?_
  refine v_iload_n k_Row_get_0 rfl ?_
  refine v_iflt 30 k_Row_get_1 rfl (by omega) (fun c1 => ?_) (fun c1 => ?_)
  · refine v_iconst k_Row_get_30 ?_
    refine v_ireturn k_Row_get_31 rfl rfl ?_
    first
      | (exfalso; omega)
      | exact ⟨by rw [rget, if_pos (by omega), take_get r5 (by omega)], rfl⟩
      | exact ⟨by rw [rget, if_neg (by omega)], rfl⟩
  · refine v_iload_n k_Row_get_4 rfl ?_
    refine v_aload_n k_Row_get_5 rfl ?_
    refine v_getf fl_Row_7 r1 rfl k_Row_get_6 ?_
    refine v_icge 30 k_Row_get_9 rfl (by omega) (by omega) (fun c9 => ?_) (fun c9 => ?_)
    · refine v_iconst k_Row_get_30 ?_
      refine v_ireturn k_Row_get_31 rfl rfl ?_
      first
        | (exfalso; omega)
        | exact ⟨by rw [rget, if_pos (by omega), take_get r5 (by omega)], rfl⟩
        | exact ⟨by rw [rget, if_neg (by omega)], rfl⟩
    · refine v_iload_n k_Row_get_12 rfl ?_
      refine v_aload_n k_Row_get_13 rfl ?_
      refine v_getf fl_Row_13 r1 rfl k_Row_get_14 ?_
      refine v_alen (by decide) r2 k_Row_get_17 ?_
      refine v_icge 30 k_Row_get_18 rfl (by omega) (by omega) (fun c18 => ?_) (fun c18 => ?_)
      · refine v_iconst k_Row_get_30 ?_
        refine v_ireturn k_Row_get_31 rfl rfl ?_
        first
          | (exfalso; omega)
          | exact ⟨by rw [rget, if_pos (by omega), take_get r5 (by omega)], rfl⟩
          | exact ⟨by rw [rget, if_neg (by omega)], rfl⟩
      · refine v_aload_n k_Row_get_21 rfl ?_
        refine v_getf fl_Row_13 r1 rfl k_Row_get_22 ?_
        refine v_iload_n k_Row_get_25 rfl ?_
        refine v_iald r2 (by omega) (by omega) k_Row_get_26 ?_
        refine v_goto k_Row_get_27 (tgt := 31) rfl ?_
        refine v_ireturn k_Row_get_31 rfl rfl ?_
        first
          | (exfalso; omega)
          | exact ⟨by rw [rget, if_pos (by omega), take_get r5 (by omega)], rfl⟩
          | exact ⟨by rw [rget, if_neg (by omega)], rfl⟩

set_option maxHeartbeats 4000000 in
set_option maxRecDepth 20000 in
theorem c_Row_set (G : Gx) {h : AH} {o room : Nat} {xs : List Int} (hp : pRow h o room xs) {i x : Int} (hi : InR i) : Ct G Y_Row_set 0 0 0 [aR o, aI i, aI x] h (fun v h' => v = none ∧ pRow h' o room (rset xs i x) ∧ Fr (o + 1) (o + 2) h h') := by
  obtain ⟨cs, r1, r2, r3, r4, r6, r5⟩ := id hp
  refine Ct.of_V mo_Row_set rfl (Nat.le_of_ble_eq_true rfl) rfl ?_
  refine v_iload_n k_Row_set_0 rfl ?_
  refine v_iflt 28 k_Row_set_1 rfl (by omega) (fun c1 => ?_) (fun c1 => ?_)
  · refine v_return k_Row_set_28 rfl ?_
    exact ⟨rfl, by rw [rset, if_neg (by omega)]; exact hp, Fr.rf⟩
  · refine v_iload_n k_Row_set_4 rfl ?_
    refine v_aload_n k_Row_set_5 rfl ?_
    refine v_getf fl_Row_7 r1 rfl k_Row_set_6 ?_
    refine v_icge 28 k_Row_set_9 rfl (by omega) (by omega) (fun c9 => ?_) (fun c9 => ?_)
    · refine v_return k_Row_set_28 rfl ?_
      exact ⟨rfl, by rw [rset, if_neg (by omega)]; exact hp, Fr.rf⟩
    · refine v_iload_n k_Row_set_12 rfl ?_
      refine v_aload_n k_Row_set_13 rfl ?_
      refine v_getf fl_Row_13 r1 rfl k_Row_set_14 ?_
      refine v_alen (by decide) r2 k_Row_set_17 ?_
      refine v_icge 28 k_Row_set_18 rfl (by omega) (by omega) (fun c18 => ?_) (fun c18 => ?_)
      · refine v_return k_Row_set_28 rfl ?_
        exact ⟨rfl, by rw [rset, if_neg (by omega)]; exact hp, Fr.rf⟩
      · refine v_aload_n k_Row_set_21 rfl ?_
        refine v_getf fl_Row_13 r1 rfl k_Row_set_22 ?_
        refine v_iload_n k_Row_set_25 rfl ?_
        refine v_iload_n k_Row_set_26 rfl ?_
        refine v_ist r2 (by omega) (by omega) k_Row_set_27 (fun h1 e1 f1 => ?_)
        refine v_return k_Row_set_28 rfl ?_
        refine ⟨rfl, ?_, f1⟩
        rw [rset, if_pos (by omega)]
        exact ⟨_, by rw [List.length_set]; exact f1.at r1 (by omega), e1, by rw [List.length_set]; exact r3, by rw [List.length_set]; exact r4, r6, by rw [List.length_set, List.take_set, r5]⟩

set_option maxHeartbeats 4000000 in
set_option maxRecDepth 20000 in
theorem c_Row_add (G : Gx) {h : AH} {o room : Nat} {xs : List Int} (hp : pRow h o room xs) {x : Int} : Ct G Y_Row_add 0 0 0 [aR o, aI x] h (fun v h' => v = none ∧ pRow h' o room (radd room xs x) ∧ Fr o (o + 2) h h') := by
  obtain ⟨cs, r1, r2, r3, r4, r6, r5⟩ := id hp
  refine Ct.of_V mo_Row_add rfl (Nat.le_of_ble_eq_true rfl) rfl ?_
  refine v_aload_n k_Row_add_0 rfl ?_
  refine v_getf fl_Row_7 r1 rfl k_Row_add_1 ?_
  refine v_iflt 39 k_Row_add_4 rfl (by omega) (fun c4 => ?_) (fun c4 => ?_)
  · refine v_return k_Row_add_39 rfl ?_
    exact ⟨rfl, by rw [radd, if_neg (by omega)]; exact hp, Fr.rf⟩
  · refine v_aload_n k_Row_add_7 rfl ?_
    refine v_getf fl_Row_7 r1 rfl k_Row_add_8 ?_
    refine v_aload_n k_Row_add_11 rfl ?_
    refine v_getf fl_Row_13 r1 rfl k_Row_add_12 ?_
    refine v_alen (by decide) r2 k_Row_add_15 ?_
    refine v_icge 39 k_Row_add_16 rfl (by omega) (by omega) (fun c16 => ?_) (fun c16 => ?_)
    · refine v_return k_Row_add_39 rfl ?_
      exact ⟨rfl, by rw [radd, if_neg (by omega)]; exact hp, Fr.rf⟩
    · refine v_aload_n k_Row_add_19 rfl ?_
      refine v_getf fl_Row_13 r1 rfl k_Row_add_20 ?_
      refine v_aload_n k_Row_add_23 rfl ?_
      refine v_getf fl_Row_7 r1 rfl k_Row_add_24 ?_
      refine v_iload_n k_Row_add_27 rfl ?_
      refine v_ist r2 (by omega) (by omega) k_Row_add_28 (fun h1 e1 f1 => ?_)
      have s1 := f1.at r1 (by omega)
      refine v_aload_n k_Row_add_29 rfl ?_
      refine v_dup k_Row_add_30 rfl ?_
      refine v_getf fl_Row_7 s1 rfl k_Row_add_31 ?_
      refine v_iconst k_Row_add_34 ?_
      refine v_iadd k_Row_add_35 ?_
      refine v_put fl_Row_7 s1 (Nat.le_of_ble_eq_true rfl) (fun r hr => by cases hr; exact Or.inl rfl) rfl rfl k_Row_add_36 (fun h2 e2 f2 => ?_)
      refine v_return k_Row_add_39 rfl ?_
      refine ⟨rfl, ?_, (Fr.wd f1 (by omega) (by omega)).tr f2 (by omega) (by omega)⟩
      rw [radd, if_pos (by omega)]
      exact ⟨_, by rw [List.length_append]; exact e2, by rw [Int.toNat_natCast] at e1; exact f2.at e1 (by omega), by rw [List.length_set]; exact r3, by rw [List.length_append]; show xs.length + 1 ≤ room; omega, r6, take_snoc r5 (by omega)⟩

set_option maxHeartbeats 4000000 in
set_option maxRecDepth 20000 in
theorem c_Row_clear (G : Gx) {h : AH} {o room : Nat} {xs : List Int} (hp : pRow h o room xs) : Ct G Y_Row_clear 0 0 0 [aR o] h (fun v h' => v = none ∧ pRow h' o room [] ∧ Fr o (o + 1) h h') := by
  obtain ⟨cs, r1, r2, r3, r4, r6, r5⟩ := id hp
  refine Ct.of_V mo_Row_clear rfl (Nat.le_of_ble_eq_true rfl) rfl ?_
  refine v_aload_n k_Row_clear_0 rfl ?_
  refine v_iconst k_Row_clear_1 ?_
  refine v_put fl_Row_7 r1 (Nat.le_of_ble_eq_true rfl) (fun r hr => by cases hr; exact Or.inl rfl) rfl rfl k_Row_clear_2 (fun h1 e1 f1 => ?_)
  refine v_return k_Row_clear_5 rfl ?_
  exact ⟨rfl, ⟨_, e1, f1.at r2 (by omega), r3, Nat.zero_le _, r6, rfl⟩, f1⟩

theorem radd_take {ys : List Int} {i room : Nat} (hi : i < ys.length) (hr : ys.length ≤ room) : radd room (ys.take i) (rget ys i) = ys.take (i + 1) := by
  rw [radd, List.length_take, if_pos (by omega), rget, if_pos (by omega), List.take_add_one, Int.toNat_natCast]
  simp [List.getD_eq_getElem?_getD, List.getElem?_eq_getElem hi]
set_option maxHeartbeats 4000000 in
set_option maxRecDepth 20000 in
theorem c_Row_copyFrom (G : Gx) {h : AH} {o p room room2 : Nat} {xs ys : List Int} (hp : pRow h o room xs) (hq : pRow h p room2 ys) (hy : ys.length ≤ room) (hd : o + 2 ≤ p ∨ p + 2 ≤ o) : Ct G Y_Row_copyFrom 1 0 0 [aR o, aR p] h (fun v h' => v = none ∧ pRow h' o room ys ∧ Fr o (o + 2) h h') := by
  refine Ct.of_V mo_Row_copyFrom rfl (Nat.le_of_ble_eq_true rfl) rfl ?_
  have loop : ∀ (n i : Nat) (h1 : AH), i ≤ ys.length → ys.length < i + n → pRow h1 o room (ys.take i) → Fr o (o + 2) h h1 → V G Y_Row_copyFrom 1 0 0 10 [some (aR o), some (aR p), some (aI i)] [] h1 (fun v h' => v = none ∧ pRow h' o room ys ∧ Fr o (o + 2) h h') := by
    intro n
    induction n with
    | zero => intro i h1 hi hn; omega
    | succ n ih =>
      intro i h1 hi hn hp1 f1
      have hq1 := hq.fr f1 (by omega)
      obtain ⟨cs, t1, t2, t3, t4, t5, t6⟩ := id hp1
      obtain ⟨ds, u1, u2, u3, u4, u5, u6⟩ := id hq1
      refine v_iload_n k_Row_copyFrom_10 rfl ?_
      refine v_aload_n k_Row_copyFrom_11 rfl ?_
      refine v_callVr mo_Row_size mi_Row_size mv_Row_size lk_Row_20 k_Row_copyFrom_12 u1 rfl rfl (Nat.le_of_ble_eq_true rfl) rfl (Nat.le_of_ble_eq_true rfl) (c_Row_size G hq1) ?_
      refine v_icge 33 k_Row_copyFrom_15 rfl (by omega) (by omega) (fun c15 => ?_) (fun c15 => ?_)
      · refine v_return k_Row_copyFrom_33 rfl ?_
        rw [List.take_of_length_le (by omega)] at hp1
        exact ⟨rfl, hp1, f1⟩
      · refine v_aload_n k_Row_copyFrom_18 rfl ?_
        refine v_aload_n k_Row_copyFrom_19 rfl ?_
        refine v_iload_n k_Row_copyFrom_20 rfl ?_
        refine v_callVr mo_Row_get mi_Row_get mv_Row_get lk_Row_24 k_Row_copyFrom_21 u1 rfl rfl (Nat.le_of_ble_eq_true rfl) rfl (Nat.le_of_ble_eq_true rfl) (c_Row_get G hq1 (i := i) (by omega)) ?_
        refine v_callV mo_Row_add mi_Row_add mv_Row_add lk_Row_28 k_Row_copyFrom_24 t1 rfl rfl (Nat.le_of_ble_eq_true rfl) rfl (Nat.le_of_ble_eq_true rfl) (c_Row_add G hp1 (x := rget ys i)) (fun v24 h24 q24 => ?_)
        obtain ⟨rfl, hp2, f2⟩ := q24
        refine v_iinc k_Row_copyFrom_27 rfl (Nat.le_of_ble_eq_true rfl) ?_
        refine v_goto k_Row_copyFrom_30 (tgt := 10) rfl ?_
        rw [show radd room (ys.take i) (rget ys i) = ys.take (i + 1) from radd_take (by omega) (by omega)] at hp2
        exact ih (i + 1) h24 (by omega) (by omega) hp2 (f1.tr f2 (by omega) (by omega))
  obtain ⟨cs, r1, r2, r3, r4, r5, r6⟩ := id hp
  refine v_aload_n k_Row_copyFrom_0 rfl ?_
  refine v_callV mo_Row_clear mi_Row_clear mv_Row_clear lk_Row_17 k_Row_copyFrom_1 r1 rfl rfl (Nat.le_of_ble_eq_true rfl) rfl (Nat.le_of_ble_eq_true rfl) (c_Row_clear G hp) (fun v h1 q => ?_)
  obtain ⟨rfl, hp1, f1⟩ := q
  refine v_aload_n k_Row_copyFrom_4 rfl ?_
  refine v_ifnull k_Row_copyFrom_5 ?_
  refine v_iconst k_Row_copyFrom_8 ?_
  refine v_istore_n k_Row_copyFrom_9 ⟨Nat.le_of_ble_eq_true rfl, Nat.le_of_ble_eq_true rfl⟩ ?_
  exact loop (ys.length + 1) 0 h1 (Nat.zero_le _) (by omega) hp1 (f1.wd (by omega) (by omega))
end
section
/-! the tune -/
def nobF : Nat → List Int → List Int
  | _, [] => []
  | i, l :: t => List.replicate l.toNat (i : Int) ++ nobF (i + 1) t
/-- the note of each beat -/
def nob (ls : List Int) : List Int := nobF 0 ls
theorem nobF_snoc : ∀ (i : Nat) (ls : List Int) (l : Int), nobF i (ls ++ [l]) = nobF i ls ++ List.replicate l.toNat ((i + ls.length : Nat) : Int)
  | i, [], l => by simp [nobF]
  | i, a :: t, l => by
    show List.replicate a.toNat (i : Int) ++ nobF (i + 1) (t ++ [l]) = (List.replicate a.toNat (i : Int) ++ nobF (i + 1) t) ++ _
    rw [nobF_snoc (i + 1) t l, List.append_assoc, List.length_cons]
    congr 3
    congr 1
    omega
theorem nob_snoc (ls : List Int) (l : Int) : nob (ls ++ [l]) = nob ls ++ List.replicate l.toNat (ls.length : Int) := by
  rw [nob, nobF_snoc, Nat.zero_add]; rfl
theorem nobF_mem : ∀ (i : Nat) (ls : List Int) (x : Int), x ∈ nobF i ls → (i : Int) ≤ x ∧ x < (i + ls.length : Nat)
  | i, [], x, h => by simp [nobF] at h
  | i, a :: t, x, h => by
    rcases List.mem_append.mp h with h | h
    · rw [(List.mem_replicate.mp h).2, List.length_cons]
      omega
    · have := nobF_mem (i + 1) t x h
      rw [List.length_cons]
      omega
theorem rget_mem {xs : List Int} {i : Int} (h : 0 ≤ i ∧ i < xs.length) : rget xs i ∈ xs := by
  rw [rget, if_pos h, List.getD_eq_getElem?_getD, List.getElem?_eq_getElem (show i.toNat < xs.length by omega)]
  exact List.getElem_mem _
theorem rget_bd {xs : List Int} {lo hi : Int} (h : ∀ x ∈ xs, lo ≤ x ∧ x ≤ hi) (h0 : lo ≤ 0) (h1 : 0 ≤ hi) (i : Int) : lo ≤ rget xs i ∧ rget xs i ≤ hi := by
  by_cases hi : 0 ≤ i ∧ i < xs.length
  · exact h _ (rget_mem hi)
  · rw [rget, if_neg hi]; exact ⟨h0, h1⟩
theorem nob_bd {ls : List Int} (h : ls.length ≤ 13) (i : Int) : 0 ≤ rget (nob ls) i ∧ rget (nob ls) i ≤ 13 := by
  refine rget_bd (fun x hx => ?_) (by decide) (by decide) i
  have := nobF_mem 0 ls x hx
  omega
def pTune (h : AH) (t : Nat) (ps ls : List Int) : Prop := h.2 t = some (aO 5 [aR (t + 1), aR (t + 3), aR (t + 5), aI (nob ls).length]) ∧ pRow h (t + 1) 13 ps ∧ pRow h (t + 3) 13 ls ∧ pRow h (t + 5) 37 (nob ls)
theorem pTune.fr {h h' : AH} {t lo hi : Nat} {ps ls : List Int} (p : pTune h t ps ls) (f : Fr lo hi h h') (ha : t + 7 ≤ lo ∨ hi ≤ t) : pTune h' t ps ls :=
  ⟨f.at p.1 (by omega), p.2.1.fr f (by omega), p.2.2.1.fr f (by omega), p.2.2.2.fr f (by omega)⟩
theorem pRow.obj {h : AH} {o room : Nat} {xs : List Int} (p : pRow h o room xs) : h.2 o = some (aO 3 [aR (o + 1), aI xs.length]) := by
  obtain ⟨cs, h1, h2⟩ := p; exact h1
theorem pRow.le {h : AH} {o room : Nat} {xs : List Int} (p : pRow h o room xs) : xs.length ≤ room := by
  obtain ⟨cs, h1, h2, h3, h4, h5⟩ := p; exact h4
set_option maxHeartbeats 4000000 in
set_option maxRecDepth 20000 in
theorem c_Tune_notes (G : Gx) {h : AH} {t : Nat} {ps ls : List Int} (hp : pTune h t ps ls) : Ct G Y_Tune_notes 1 0 0 [aR t] h (isR (some (aI ps.length)) h) := by
  obtain ⟨t0, t1, t2, t3⟩ := id hp
  refine Ct.of_V mo_Tune_notes rfl (Nat.le_of_ble_eq_true rfl) rfl ?_
  refine v_aload_n k_Tune_notes_0 rfl ?_
  refine v_getf fl_Tune_14 t0 rfl k_Tune_notes_1 ?_
  refine v_callVr mo_Row_size mi_Row_size mv_Row_size lk_Tune_30 k_Tune_notes_4 t1.obj rfl rfl (Nat.le_of_ble_eq_true rfl) rfl (Nat.le_of_ble_eq_true rfl) (c_Row_size G t1) ?_
  refine v_ireturn k_Tune_notes_7 rfl rfl ?_
  exact ⟨rfl, rfl⟩

set_option maxHeartbeats 4000000 in
set_option maxRecDepth 20000 in
theorem c_Tune_has (G : Gx) {h : AH} {t : Nat} {ps ls : List Int} (hp : pTune h t ps ls) {i : Int} (hi : InR i) : Ct G Y_Tune_has 1 0 0 [aR t, aI i] h (isR (some (aI (if 0 ≤ i ∧ i < ps.length then 1 else 0))) h) := by
  obtain ⟨t0, t1, t2, t3⟩ := id hp
  refine Ct.of_V mo_Tune_has rfl (Nat.le_of_ble_eq_true rfl) rfl ?_
  refine v_aload_n k_Tune_has_0 rfl ?_
  refine v_getf fl_Tune_14 t0 rfl k_Tune_has_1 ?_
  refine v_iload_n k_Tune_has_4 rfl ?_
  refine v_callVr mo_Row_has mi_Row_has mv_Row_has lk_Tune_34 k_Tune_has_5 t1.obj rfl rfl (Nat.le_of_ble_eq_true rfl) rfl (Nat.le_of_ble_eq_true rfl) (c_Row_has G t1 (by omega)) ?_
  refine v_ireturn k_Tune_has_8 rfl (by split <;> rfl) ?_
  exact ⟨rfl, rfl⟩

set_option maxHeartbeats 4000000 in
set_option maxRecDepth 20000 in
theorem c_Tune_pitchOf (G : Gx) {h : AH} {t : Nat} {ps ls : List Int} (hp : pTune h t ps ls) {i : Int} (hi : InR i) : Ct G Y_Tune_pitchOf 1 0 0 [aR t, aI i] h (isR (some (aI (rget ps i))) h) := by
  obtain ⟨t0, t1, t2, t3⟩ := id hp
  refine Ct.of_V mo_Tune_pitchOf rfl (Nat.le_of_ble_eq_true rfl) rfl ?_
  refine v_aload_n k_Tune_pitchOf_0 rfl ?_
  refine v_getf fl_Tune_14 t0 rfl k_Tune_pitchOf_1 ?_
  refine v_iload_n k_Tune_pitchOf_4 rfl ?_
  refine v_callVr mo_Row_get mi_Row_get mv_Row_get lk_Tune_38 k_Tune_pitchOf_5 t1.obj rfl rfl (Nat.le_of_ble_eq_true rfl) rfl (Nat.le_of_ble_eq_true rfl) (c_Row_get G t1 (by omega)) ?_
  refine v_ireturn k_Tune_pitchOf_8 rfl rfl ?_
  exact ⟨rfl, rfl⟩

set_option maxHeartbeats 4000000 in
set_option maxRecDepth 20000 in
theorem c_Tune_lengthOf (G : Gx) {h : AH} {t : Nat} {ps ls : List Int} (hp : pTune h t ps ls) {i : Int} (hi : InR i) : Ct G Y_Tune_lengthOf 1 0 0 [aR t, aI i] h (isR (some (aI (rget ls i))) h) := by
  obtain ⟨t0, t1, t2, t3⟩ := id hp
  refine Ct.of_V mo_Tune_lengthOf rfl (Nat.le_of_ble_eq_true rfl) rfl ?_
  refine v_aload_n k_Tune_lengthOf_0 rfl ?_
  refine v_getf fl_Tune_20 t0 rfl k_Tune_lengthOf_1 ?_
  refine v_iload_n k_Tune_lengthOf_4 rfl ?_
  refine v_callVr mo_Row_get mi_Row_get mv_Row_get lk_Tune_38 k_Tune_lengthOf_5 t2.obj rfl rfl (Nat.le_of_ble_eq_true rfl) rfl (Nat.le_of_ble_eq_true rfl) (c_Row_get G t2 (by omega)) ?_
  refine v_ireturn k_Tune_lengthOf_8 rfl rfl ?_
  exact ⟨rfl, rfl⟩

set_option maxHeartbeats 4000000 in
set_option maxRecDepth 20000 in
theorem c_Tune_noteAt (G : Gx) {h : AH} {t : Nat} {ps ls : List Int} (hp : pTune h t ps ls) {i : Int} (hi : InR i) : Ct G Y_Tune_noteAt 1 0 0 [aR t, aI i] h (isR (some (aI (rget (nob ls) i))) h) := by
  obtain ⟨t0, t1, t2, t3⟩ := id hp
  refine Ct.of_V mo_Tune_noteAt rfl (Nat.le_of_ble_eq_true rfl) rfl ?_
  refine v_aload_n k_Tune_noteAt_0 rfl ?_
  refine v_getf fl_Tune_23 t0 rfl k_Tune_noteAt_1 ?_
  refine v_iload_n k_Tune_noteAt_4 rfl ?_
  refine v_callVr mo_Row_get mi_Row_get mv_Row_get lk_Tune_38 k_Tune_noteAt_5 t3.obj rfl rfl (Nat.le_of_ble_eq_true rfl) rfl (Nat.le_of_ble_eq_true rfl) (c_Row_get G t3 (by omega)) ?_
  refine v_ireturn k_Tune_noteAt_8 rfl rfl ?_
  exact ⟨rfl, rfl⟩

set_option maxHeartbeats 4000000 in
set_option maxRecDepth 20000 in
theorem c_Tune_plainAt (G : Gx) {h : AH} {t : Nat} {ps ls : List Int} (hp : pTune h t ps ls) (hl : ls.length ≤ 13) {i : Int} (hi : InR i) : Ct G Y_Tune_plainAt 1 0 0 [aR t, aI i] h (isR (some (aI (rget ps (rget (nob ls) i)))) h) := by
  obtain ⟨t0, t1, t2, t3⟩ := id hp
  have b1 := nob_bd hl i
  refine Ct.of_V mo_Tune_plainAt rfl (Nat.le_of_ble_eq_true rfl) rfl ?_
  refine v_aload_n k_Tune_plainAt_0 rfl ?_
  refine v_getf fl_Tune_14 t0 rfl k_Tune_plainAt_1 ?_
  refine v_aload_n k_Tune_plainAt_4 rfl ?_
  refine v_getf fl_Tune_23 t0 rfl k_Tune_plainAt_5 ?_
  refine v_iload_n k_Tune_plainAt_8 rfl ?_
  refine v_callVr mo_Row_get mi_Row_get mv_Row_get lk_Tune_38 k_Tune_plainAt_9 t3.obj rfl rfl (Nat.le_of_ble_eq_true rfl) rfl (Nat.le_of_ble_eq_true rfl) (c_Row_get G t3 (by omega)) ?_
  refine v_callVr mo_Row_get mi_Row_get mv_Row_get lk_Tune_38 k_Tune_plainAt_12 t1.obj rfl rfl (Nat.le_of_ble_eq_true rfl) rfl (Nat.le_of_ble_eq_true rfl) (c_Row_get G t1 (by omega)) ?_
  refine v_ireturn k_Tune_plainAt_15 rfl rfl ?_
  exact ⟨rfl, rfl⟩

set_option maxHeartbeats 4000000 in
set_option maxRecDepth 20000 in
theorem c_Tune_setPitch (G : Gx) {h : AH} {t : Nat} {ps ls : List Int} (hp : pTune h t ps ls) {i x : Int} (hi : InR i) : Ct G Y_Tune_setPitch 1 0 0 [aR t, aI i, aI x] h (fun v h' => v = none ∧ pTune h' t (rset ps i x) ls ∧ Fr (t + 2) (t + 3) h h') := by
  obtain ⟨t0, t1, t2, t3⟩ := id hp
  refine Ct.of_V mo_Tune_setPitch rfl (Nat.le_of_ble_eq_true rfl) rfl ?_
  refine v_aload_n k_Tune_setPitch_0 rfl ?_
  refine v_getf fl_Tune_14 t0 rfl k_Tune_setPitch_1 ?_
  refine v_iload_n k_Tune_setPitch_4 rfl ?_
  refine v_iload_n k_Tune_setPitch_5 rfl ?_
  refine v_callV mo_Row_set mi_Row_set mv_Row_set lk_Tune_42 k_Tune_setPitch_6 t1.obj rfl rfl (Nat.le_of_ble_eq_true rfl) rfl (Nat.le_of_ble_eq_true rfl) (c_Row_set G t1 (by omega)) (fun v6 h6 q6 => ?_)
  obtain ⟨rfl, n1, f1⟩ := q6
  refine v_return k_Tune_setPitch_9 rfl ?_
  exact ⟨rfl, ⟨f1.at t0 (by omega), n1, t2.fr f1 (by omega), t3.fr f1 (by omega)⟩, f1⟩

theorem sum_take {ls : List Int} {i : Nat} (hi : i < ls.length) : (ls.take (i + 1)).sum = (ls.take i).sum + rget ls i := by
  rw [rget, if_pos (by omega), List.take_add_one, Int.toNat_natCast, List.getElem?_eq_getElem hi, List.sum_append, List.getD_eq_getElem?_getD, List.getElem?_eq_getElem hi]
  simp
theorem sum_end {ls : List Int} {i : Nat} {n : Int} (h : n ≤ i ∨ ls.length ≤ i) (h2 : (i : Int) ≤ n ∨ i = 0) : (ls.take n.toNat).sum = (ls.take i).sum := by
  by_cases e : n.toNat = i
  · rw [e]
  · rcases h with h | h
    · exfalso; omega
    · rw [List.take_of_length_le h, List.take_of_length_le (by omega)]
set_option maxHeartbeats 4000000 in
set_option maxRecDepth 20000 in
theorem c_Tune_startOf (G : Gx) {h : AH} {t : Nat} {ps ls : List Int} (hp : pTune h t ps ls) {n : Int} (hn : InR n) : Ct G Y_Tune_startOf 1 0 0 [aR t, aI n] h (isR (some (aI (ls.take n.toNat).sum)) h) := by
  obtain ⟨t0, t1, t2, t3⟩ := id hp
  have hl := t2.le
  refine Ct.of_V mo_Tune_startOf rfl (Nat.le_of_ble_eq_true rfl) rfl ?_
  have loop : ∀ (k i : Nat), ls.length < i + k → (i : Int) ≤ n ∨ i = 0 → i ≤ 13 → V G Y_Tune_startOf 1 0 0 4 [some (aR t), some (aI n), some (aI (ls.take i).sum), some (aI i)] [] h (isR (some (aI (ls.take n.toNat).sum)) h) := by
    intro k
    induction k with
    | zero =>
      intro i hi hn2 h13
      have hi2 : ls.length ≤ i := by omega
      refine v_iload_n k_Tune_startOf_4 rfl ?_
      refine v_iload_n k_Tune_startOf_5 rfl ?_
      refine v_icge 37 k_Tune_startOf_6 rfl (by omega) (by omega) (fun c6 => ?_) (fun c6 => ?_)
      · refine v_iload_n k_Tune_startOf_37 rfl ?_
        refine v_ireturn k_Tune_startOf_38 rfl rfl ?_
        exact ⟨congrArg (fun x => some (aI x)) (sum_end (i := i) (by omega) (by omega)).symm, rfl⟩
      · refine v_iload_n k_Tune_startOf_9 rfl ?_
        refine v_aload_n k_Tune_startOf_10 rfl ?_
        refine v_getf fl_Tune_20 t0 rfl k_Tune_startOf_11 ?_
        refine v_callVr mo_Row_size mi_Row_size mv_Row_size lk_Tune_30 k_Tune_startOf_14 t2.obj rfl rfl (Nat.le_of_ble_eq_true rfl) rfl (Nat.le_of_ble_eq_true rfl) (c_Row_size G t2) ?_
        refine v_icge 37 k_Tune_startOf_17 rfl (by omega) (by omega) (fun c17 => ?_) (fun c17 => ?_)
        · refine v_iload_n k_Tune_startOf_37 rfl ?_
          refine v_ireturn k_Tune_startOf_38 rfl rfl ?_
          exact ⟨congrArg (fun x => some (aI x)) (sum_end (i := i) (by omega) (by omega)).symm, rfl⟩
        · exfalso; omega
    | succ k ih =>
      intro i hi hn2 h13
      refine v_iload_n k_Tune_startOf_4 rfl ?_
      refine v_iload_n k_Tune_startOf_5 rfl ?_
      refine v_icge 37 k_Tune_startOf_6 rfl (by omega) (by omega) (fun c6 => ?_) (fun c6 => ?_)
      · refine v_iload_n k_Tune_startOf_37 rfl ?_
        refine v_ireturn k_Tune_startOf_38 rfl rfl ?_
        exact ⟨congrArg (fun x => some (aI x)) (sum_end (i := i) (by omega) (by omega)).symm, rfl⟩
      · refine v_iload_n k_Tune_startOf_9 rfl ?_
        refine v_aload_n k_Tune_startOf_10 rfl ?_
        refine v_getf fl_Tune_20 t0 rfl k_Tune_startOf_11 ?_
        refine v_callVr mo_Row_size mi_Row_size mv_Row_size lk_Tune_30 k_Tune_startOf_14 t2.obj rfl rfl (Nat.le_of_ble_eq_true rfl) rfl (Nat.le_of_ble_eq_true rfl) (c_Row_size G t2) ?_
        refine v_icge 37 k_Tune_startOf_17 rfl (by omega) (by omega) (fun c17 => ?_) (fun c17 => ?_)
        · refine v_iload_n k_Tune_startOf_37 rfl ?_
          refine v_ireturn k_Tune_startOf_38 rfl rfl ?_
          exact ⟨congrArg (fun x => some (aI x)) (sum_end (i := i) (by omega) (by omega)).symm, rfl⟩
        · refine v_iload_n k_Tune_startOf_20 rfl ?_
          refine v_aload_n k_Tune_startOf_21 rfl ?_
          refine v_getf fl_Tune_20 t0 rfl k_Tune_startOf_22 ?_
          refine v_iload_n k_Tune_startOf_25 rfl ?_
          refine v_callVr mo_Row_get mi_Row_get mv_Row_get lk_Tune_38 k_Tune_startOf_26 t2.obj rfl rfl (Nat.le_of_ble_eq_true rfl) rfl (Nat.le_of_ble_eq_true rfl) (c_Row_get G t2 (by omega)) ?_
          refine v_iadd k_Tune_startOf_29 ?_
          refine v_istore_n k_Tune_startOf_30 ⟨Nat.le_of_ble_eq_true rfl, Nat.le_of_ble_eq_true rfl⟩ ?_
          refine v_iinc k_Tune_startOf_31 rfl (Nat.le_of_ble_eq_true rfl) ?_
          refine v_goto k_Tune_startOf_34 (tgt := 4) rfl ?_
          rw [← show (ls.take (i + 1)).sum = (ls.take i).sum + rget ls i from sum_take (by omega)]
          exact ih (i + 1) (by omega) (by omega) (by omega)
  refine v_iconst k_Tune_startOf_0 ?_
  refine v_istore_n k_Tune_startOf_1 ⟨Nat.le_of_ble_eq_true rfl, Nat.le_of_ble_eq_true rfl⟩ ?_
  refine v_iconst k_Tune_startOf_2 ?_
  refine v_istore_n k_Tune_startOf_3 ⟨Nat.le_of_ble_eq_true rfl, Nat.le_of_ble_eq_true rfl⟩ ?_
  exact loop 14 0 (by omega) (Or.inr rfl) (by omega)

theorem radd_rep {xs : List Int} {i : Nat} {x : Int} (h : xs.length + i < 37) : radd 37 (xs ++ List.replicate i x) x = xs ++ List.replicate (i + 1) x := by
  rw [radd, if_pos (by rw [List.length_append, List.length_replicate]; omega), List.replicate_succ', List.append_assoc]
set_option maxHeartbeats 4000000 in
set_option maxRecDepth 20000 in
theorem c_Tune_add (G : Gx) {h : AH} {t : Nat} {ps ls : List Int} (hp : pTune h t ps ls) {p l : Int} (hl : 1 ≤ l ∧ l ≤ 3) (hlen : ps.length = ls.length) (h12 : ps.length < 13) (h37 : (nob ls).length + l.toNat ≤ 37) : Ct G Y_Tune_add 1 0 0 [aR t, aI p, aI l] h (fun v h' => v = none ∧ pTune h' t (ps ++ [p]) (ls ++ [l]) ∧ Fr t (t + 7) h h') := by
  obtain ⟨t0, t1, t2, t3⟩ := id hp
  have heq : nob ls ++ List.replicate l.toNat (ps.length : Int) = nob (ls ++ [l]) := by rw [nob_snoc, hlen]
  refine Ct.of_V mo_Tune_add rfl (Nat.le_of_ble_eq_true rfl) rfl ?_
  have loop : ∀ (k i : Nat) (h1 : AH), l.toNat < i + k → i ≤ l.toNat → h1.2 t = some (aO 5 [aR (t + 1), aR (t + 3), aR (t + 5), aI (nob ls).length]) → pRow h1 (t + 1) 13 (ps ++ [p]) → pRow h1 (t + 3) 13 (ls ++ [l]) → pRow h1 (t + 5) 37 (nob ls ++ List.replicate i (ps.length : Int)) → Fr t (t + 7) h h1 →
      V G Y_Tune_add 1 0 0 27 [some (aR t), some (aI p), some (aI l), some (aI ps.length), some (aI i)] [] h1 (fun v h' => v = none ∧ pTune h' t (ps ++ [p]) (ls ++ [l]) ∧ Fr t (t + 7) h h') := by
    intro k
    induction k with
    | zero => intro i h1 hi hn; omega
    | succ k ih =>
      intro i h1 hi hn s0 s1 s2 s3 f1
      refine v_iload k_Tune_add_27 rfl ?_
      refine v_iload_n k_Tune_add_29 rfl ?_
      refine v_icge 53 k_Tune_add_30 rfl (by omega) (by omega) (fun c30 => ?_) (fun c30 => ?_)
      · refine v_aload_n k_Tune_add_53 rfl ?_
        refine v_aload_n k_Tune_add_54 rfl ?_
        refine v_getf fl_Tune_23 s0 rfl k_Tune_add_55 ?_
        refine v_callVr mo_Row_size mi_Row_size mv_Row_size lk_Tune_30 k_Tune_add_58 s3.obj rfl rfl (Nat.le_of_ble_eq_true rfl) rfl (Nat.le_of_ble_eq_true rfl) (c_Row_size G s3) ?_
        refine v_put fl_Tune_26 s0 (Nat.le_of_ble_eq_true rfl) (fun r hr => by cases hr; exact Or.inl rfl) rfl rfl k_Tune_add_61 (fun h2 e2 f2 => ?_)
        refine v_return k_Tune_add_64 rfl ?_
        have hil : i = l.toNat := by omega
        subst hil
        rw [heq] at s3
        refine ⟨rfl, ⟨?_, s1.fr f2 (by omega), s2.fr f2 (by omega), s3.fr f2 (by omega)⟩, f1.tr f2 (by omega) (by omega)⟩
        rw [e2, ← heq]; rfl
      · refine v_iload k_Tune_add_33 rfl ?_
        refine v_iconst k_Tune_add_35 ?_
        refine v_icge 53 k_Tune_add_36 rfl (by omega) (by omega) (fun c36 => ?_) (fun c36 => ?_)
        · refine v_aload_n k_Tune_add_53 rfl ?_
          refine v_aload_n k_Tune_add_54 rfl ?_
          refine v_getf fl_Tune_23 s0 rfl k_Tune_add_55 ?_
          refine v_callVr mo_Row_size mi_Row_size mv_Row_size lk_Tune_30 k_Tune_add_58 s3.obj rfl rfl (Nat.le_of_ble_eq_true rfl) rfl (Nat.le_of_ble_eq_true rfl) (c_Row_size G s3) ?_
          refine v_put fl_Tune_26 s0 (Nat.le_of_ble_eq_true rfl) (fun r hr => by cases hr; exact Or.inl rfl) rfl rfl k_Tune_add_61 (fun h2 e2 f2 => ?_)
          refine v_return k_Tune_add_64 rfl ?_
          have hil : i = l.toNat := by omega
          subst hil
          rw [heq] at s3
          refine ⟨rfl, ⟨?_, s1.fr f2 (by omega), s2.fr f2 (by omega), s3.fr f2 (by omega)⟩, f1.tr f2 (by omega) (by omega)⟩
          rw [e2, ← heq]; rfl
        · refine v_aload_n k_Tune_add_39 rfl ?_
          refine v_getf fl_Tune_23 s0 rfl k_Tune_add_40 ?_
          refine v_iload_n k_Tune_add_43 rfl ?_
          refine v_callV mo_Row_add mi_Row_add mv_Row_add lk_Tune_46 k_Tune_add_44 s3.obj rfl rfl (Nat.le_of_ble_eq_true rfl) rfl (Nat.le_of_ble_eq_true rfl) (c_Row_add G s3) (fun v44 h44 q44 => ?_)
          obtain ⟨rfl, n3, g3⟩ := q44
          refine v_iinc k_Tune_add_47 rfl (Nat.le_of_ble_eq_true rfl) ?_
          refine v_goto k_Tune_add_50 (tgt := 27) rfl ?_
          rw [show radd 37 (nob ls ++ List.replicate i (ps.length : Int)) ps.length = nob ls ++ List.replicate (i + 1) (ps.length : Int) from radd_rep (by omega)] at n3
          exact ih (i + 1) h44 (by omega) (by omega) (g3.at s0 (by omega)) (s1.fr g3 (by omega)) (s2.fr g3 (by omega)) n3 (f1.tr g3 (by omega) (by omega))
  refine v_aload_n k_Tune_add_0 rfl ?_
  refine v_getf fl_Tune_14 t0 rfl k_Tune_add_1 ?_
  refine v_callVr mo_Row_size mi_Row_size mv_Row_size lk_Tune_30 k_Tune_add_4 t1.obj rfl rfl (Nat.le_of_ble_eq_true rfl) rfl (Nat.le_of_ble_eq_true rfl) (c_Row_size G t1) ?_
  refine v_istore_n k_Tune_add_7 ⟨Nat.le_of_ble_eq_true rfl, Nat.le_of_ble_eq_true rfl⟩ ?_
  refine v_aload_n k_Tune_add_8 rfl ?_
  refine v_getf fl_Tune_14 t0 rfl k_Tune_add_9 ?_
  refine v_iload_n k_Tune_add_12 rfl ?_
  refine v_callV mo_Row_add mi_Row_add mv_Row_add lk_Tune_46 k_Tune_add_13 t1.obj rfl rfl (Nat.le_of_ble_eq_true rfl) rfl (Nat.le_of_ble_eq_true rfl) (c_Row_add G t1) (fun v13 h13 q13 => ?_)
  obtain ⟨rfl, n1, f1⟩ := q13
  have t0 := f1.at t0 (by omega)
  have t2 := t2.fr f1 (by omega)
  have t3 := t3.fr f1 (by omega)
  refine v_aload_n k_Tune_add_16 rfl ?_
  refine v_getf fl_Tune_20 t0 rfl k_Tune_add_17 ?_
  refine v_iload_n k_Tune_add_20 rfl ?_
  refine v_callV mo_Row_add mi_Row_add mv_Row_add lk_Tune_46 k_Tune_add_21 t2.obj rfl rfl (Nat.le_of_ble_eq_true rfl) rfl (Nat.le_of_ble_eq_true rfl) (c_Row_add G t2) (fun v21 h21 q21 => ?_)
  obtain ⟨rfl, n2, f2⟩ := q21
  have t0 := f2.at t0 (by omega)
  have n1 := n1.fr f2 (by omega)
  have t3 := t3.fr f2 (by omega)
  refine v_iconst k_Tune_add_24 ?_
  refine v_istore k_Tune_add_25 ⟨Nat.le_of_ble_eq_true rfl, Nat.le_of_ble_eq_true rfl⟩ ?_
  rw [radd, if_pos (by omega)] at n1 n2
  exact loop (l.toNat + 1) 0 h21 (by omega) (by omega) t0 n1 n2 (by rw [List.replicate_zero, List.append_nil]; exact t3) ((f1.wd (by omega) (by omega)).tr f2 (by omega) (by omega))


set_option maxHeartbeats 4000000 in
set_option maxRecDepth 20000 in
theorem c_Tune_copyFrom (G : Gx) {h : AH} {t : Nat} {ps ls : List Int} (hp : pTune h t ps ls) {u : Nat} {ps2 ls2 : List Int} (hq : pTune h u ps2 ls2) (hd : t + 7 ≤ u ∨ u + 7 ≤ t) : Ct G Y_Tune_copyFrom 2 0 0 [aR t, aR u] h (fun v h' => v = none ∧ pTune h' t ps2 ls2 ∧ Fr t (t + 7) h h') := by
  obtain ⟨t0, t1, t2, t3⟩ := id hp
  obtain ⟨u0, u1, u2, u3⟩ := id hq
  have l1 := u1.le
  have l2 := u2.le
  have l3 := u3.le
  refine Ct.of_V mo_Tune_copyFrom rfl (Nat.le_of_ble_eq_true rfl) rfl ?_
  refine v_aload_n k_Tune_copyFrom_0 rfl ?_
  refine v_ifnull k_Tune_copyFrom_1 ?_
  refine v_aload_n k_Tune_copyFrom_4 rfl ?_
  refine v_getf fl_Tune_14 t0 rfl k_Tune_copyFrom_5 ?_
  refine v_aload_n k_Tune_copyFrom_8 rfl ?_
  refine v_getf fl_Tune_14 u0 rfl k_Tune_copyFrom_9 ?_
  refine v_callV mo_Row_copyFrom mi_Row_copyFrom mv_Row_copyFrom lk_Tune_52 k_Tune_copyFrom_12 t1.obj rfl rfl (Nat.le_of_ble_eq_true rfl) rfl (Nat.le_of_ble_eq_true rfl) (c_Row_copyFrom G t1 u1 (by omega) (by omega)) (fun v12 h12 q12 => ?_)
  obtain ⟨rfl, n1, f1⟩ := q12
  have t0 := f1.at t0 (by omega)
  have t2 := t2.fr f1 (by omega)
  have t3 := t3.fr f1 (by omega)
  have u0 := f1.at u0 (by omega)
  have u2 := u2.fr f1 (by omega)
  have u3 := u3.fr f1 (by omega)
  refine v_aload_n k_Tune_copyFrom_15 rfl ?_
  refine v_getf fl_Tune_20 t0 rfl k_Tune_copyFrom_16 ?_
  refine v_aload_n k_Tune_copyFrom_19 rfl ?_
  refine v_getf fl_Tune_20 u0 rfl k_Tune_copyFrom_20 ?_
  refine v_callV mo_Row_copyFrom mi_Row_copyFrom mv_Row_copyFrom lk_Tune_52 k_Tune_copyFrom_23 t2.obj rfl rfl (Nat.le_of_ble_eq_true rfl) rfl (Nat.le_of_ble_eq_true rfl) (c_Row_copyFrom G t2 u2 (by omega) (by omega)) (fun v23 h23 q23 => ?_)
  obtain ⟨rfl, n2, f2⟩ := q23
  have t0 := f2.at t0 (by omega)
  have n1 := n1.fr f2 (by omega)
  have t3 := t3.fr f2 (by omega)
  have u0 := f2.at u0 (by omega)
  have u3 := u3.fr f2 (by omega)
  refine v_aload_n k_Tune_copyFrom_26 rfl ?_
  refine v_getf fl_Tune_23 t0 rfl k_Tune_copyFrom_27 ?_
  refine v_aload_n k_Tune_copyFrom_30 rfl ?_
  refine v_getf fl_Tune_23 u0 rfl k_Tune_copyFrom_31 ?_
  refine v_callV mo_Row_copyFrom mi_Row_copyFrom mv_Row_copyFrom lk_Tune_52 k_Tune_copyFrom_34 t3.obj rfl rfl (Nat.le_of_ble_eq_true rfl) rfl (Nat.le_of_ble_eq_true rfl) (c_Row_copyFrom G t3 u3 (by omega) (by omega)) (fun v34 h34 q34 => ?_)
  obtain ⟨rfl, n3, f3⟩ := q34
  have t0 := f3.at t0 (by omega)
  have n1 := n1.fr f3 (by omega)
  have n2 := n2.fr f3 (by omega)
  have u0 := f3.at u0 (by omega)
  refine v_aload_n k_Tune_copyFrom_37 rfl ?_
  refine v_aload_n k_Tune_copyFrom_38 rfl ?_
  refine v_getf fl_Tune_26 u0 rfl k_Tune_copyFrom_39 ?_
  refine v_put fl_Tune_26 t0 (Nat.le_of_ble_eq_true rfl) (fun r hr => by cases hr; exact Or.inl rfl) rfl rfl k_Tune_copyFrom_42 (fun h4 e4 f4 => ?_)
  refine v_return k_Tune_copyFrom_45 rfl ?_
  exact ⟨rfl, ⟨e4, n1.fr f4 (by omega), n2.fr f4 (by omega), n3.fr f4 (by omega)⟩, (((f1.wd (by omega) (by omega)).tr f2 (by omega) (by omega)).tr f3 (by omega) (by omega)).tr f4 (by omega) (by omega)⟩
end
section
/-! a canon as numbers: pitches, lengths, kinds, entries, highs, rounds, step, law -/
abbrev CK : Type := List Int × List Int × List Int × List Int × List Int × Int × Int × Int
def kP (K : CK) : List Int := K.1
def kL (K : CK) : List Int := K.2.1
def kK (K : CK) : List Int := K.2.2.1
def kE (K : CK) : List Int := K.2.2.2.1
def kH (K : CK) : List Int := K.2.2.2.2.1
def kR (K : CK) : Int := K.2.2.2.2.2.1
def kS (K : CK) : Int := K.2.2.2.2.2.2.1
def kW (K : CK) : Int := K.2.2.2.2.2.2.2
def bt (K : CK) : Nat := (nob (kL K)).length
def vK (K : CK) (N V : Nat) : Prop := (kP K).length = (kL K).length ∧ (kP K).length ≤ N ∧ (∀ x ∈ kP K, 0 ≤ x ∧ x ≤ 9) ∧ (∀ x ∈ kL K, 1 ≤ x ∧ x ≤ 3) ∧ bt K ≤ 37 ∧
  (kK K).length ≤ V ∧ (kE K).length = (kK K).length ∧ (kH K).length = (kK K).length ∧ (∀ x ∈ kK K, 0 ≤ x ∧ x ≤ 5) ∧ (∀ x ∈ kE K, 0 ≤ x ∧ x ≤ 60) ∧ (∀ x ∈ kH K, 0 ≤ x ∧ x ≤ 9) ∧
  (1 ≤ kR K ∧ kR K ≤ 4) ∧ (0 ≤ kS K ∧ kS K ≤ 2) ∧ 0 ≤ kW K ∧ kW K ≤ 127
/-- a canon that is told, or thought of -/
abbrev wK (K : CK) : Prop := vK K 13 7
theorem wK.kd {K : CK} (w : wK K) (v : Int) : 0 ≤ rget (kK K) v ∧ rget (kK K) v ≤ 5 := rget_bd w.2.2.2.2.2.2.2.2.1 (by decide) (by decide) v
theorem wK.en {K : CK} (w : wK K) (v : Int) : 0 ≤ rget (kE K) v ∧ rget (kE K) v ≤ 60 := rget_bd w.2.2.2.2.2.2.2.2.2.1 (by decide) (by decide) v
theorem wK.hi {K : CK} (w : wK K) (v : Int) : 0 ≤ rget (kH K) v ∧ rget (kH K) v ≤ 9 := rget_bd w.2.2.2.2.2.2.2.2.2.2.1 (by decide) (by decide) v
theorem wK.pt {K : CK} (w : wK K) (v : Int) : 0 ≤ rget (kP K) v ∧ rget (kP K) v ≤ 9 := rget_bd w.2.2.1 (by decide) (by decide) v
theorem wK.rd {K : CK} (w : wK K) : 1 ≤ kR K ∧ kR K ≤ 4 := w.2.2.2.2.2.2.2.2.2.2.2.1
theorem wK.sp {K : CK} (w : wK K) : 0 ≤ kS K ∧ kS K ≤ 2 := w.2.2.2.2.2.2.2.2.2.2.2.2.1
theorem wK.lw {K : CK} (w : wK K) : 0 ≤ kW K ∧ kW K ≤ 127 := w.2.2.2.2.2.2.2.2.2.2.2.2.2
theorem wK.bb {K : CK} (w : wK K) : bt K ≤ 37 := w.2.2.2.2.1
theorem wK.nv {K : CK} (w : wK K) : (kK K).length ≤ 7 := w.2.2.2.2.2.1
theorem wK.nn {K : CK} (w : wK K) : (kL K).length ≤ 13 := by have := w.1; have := w.2.1; omega
theorem wK.nb {K : CK} (w : wK K) (j : Int) : 0 ≤ rget (nob (kL K)) j ∧ rget (nob (kL K)) j ≤ 13 := nob_bd w.nn j
theorem mul_bd {a b A B : Int} (ha : 0 ≤ a) (hA : a ≤ A) (hb : 0 ≤ b) (hB : b ≤ B) : 0 ≤ a * b ∧ a * b ≤ A * B :=
  ⟨Int.mul_nonneg ha hb, Int.mul_le_mul hA hB hb (by omega)⟩
/-- beats of a voice's round -/
def q_rB (K : CK) (v : Int) : Int := if rget (kK K) v = 3 then 2 * (bt K : Int) else (bt K : Int)
theorem wK.rB {K : CK} (w : wK K) (v : Int) : 0 ≤ q_rB K v ∧ q_rB K v ≤ 74 := by
  have := w.bb
  unfold q_rB
  split <;> omega
/-- from when on a voice is still -/
def q_stl (K : CK) (v : Int) : Int := rget (kE K) v + kR K * q_rB K v
theorem wK.rr {K : CK} (w : wK K) (v : Int) : 0 ≤ kR K * q_rB K v ∧ kR K * q_rB K v ≤ 296 := mul_bd (by have := w.rd; omega) w.rd.2 (w.rB v).1 (w.rB v).2
theorem wK.stl {K : CK} (w : wK K) (v : Int) : 0 ≤ q_stl K v ∧ q_stl K v ≤ 356 := by
  have := w.en v
  have := w.rr v
  unfold q_stl
  omega
def q_endF (K : CK) : Nat → Int
  | 0 => 0
  | n + 1 => max (q_endF K n) (q_stl K n)
theorem wK.endF {K : CK} (w : wK K) : ∀ n : Nat, 0 ≤ q_endF K n ∧ q_endF K n ≤ 356
  | 0 => by simp [q_endF]
  | n + 1 => by
    have h1 := wK.endF w n
    have h2 := w.stl n
    show 0 ≤ max (q_endF K n) (q_stl K n) ∧ max (q_endF K n) (q_stl K n) ≤ 356
    omega
/-- the first beat from which on nothing sounds -/
def q_endK (K : CK) : Int := if 0 < bt K then q_endF K (kK K).length else 0
theorem wK.endK {K : CK} (w : wK K) : 0 ≤ q_endK K ∧ q_endK K ≤ 356 := by
  have := w.endF (kK K).length
  unfold q_endK
  split <;> omega
/-- the note that a voice sings at a beat; -1 -/
def q_nS (K : CK) (v b : Int) : Int :=
  if 0 < q_rB K v ∧ 0 ≤ b - rget (kE K) v ∧ b - rget (kE K) v < kR K * q_rB K v then
    (if rget (kK K) v = 1 ∨ rget (kK K) v = 5 then rget (nob (kL K)) ((bt K : Int) - 1 - (b - rget (kE K) v) % q_rB K v)
     else if rget (kK K) v = 3 then rget (nob (kL K)) ((b - rget (kE K) v) % q_rB K v / 2) else rget (nob (kL K)) ((b - rget (kE K) v) % q_rB K v))
  else -1
theorem wK.nS {K : CK} (w : wK K) (v b : Int) : -1 ≤ q_nS K v b ∧ q_nS K v b ≤ 13 := by
  unfold q_nS
  split
  · split
    · have := w.nb ((bt K : Int) - 1 - (b - rget (kE K) v) % q_rB K v); omega
    · split
      · have := w.nb ((b - rget (kE K) v) % q_rB K v / 2); omega
      · have := w.nb ((b - rget (kE K) v) % q_rB K v); omega
  · omega
theorem nS_in {K : CK} {v b : Int} (hc : 0 < q_rB K v ∧ 0 ≤ b - rget (kE K) v ∧ b - rget (kE K) v < kR K * q_rB K v) : q_nS K v b =
    (if rget (kK K) v = 1 ∨ rget (kK K) v = 5 then rget (nob (kL K)) ((bt K : Int) - 1 - (b - rget (kE K) v) % q_rB K v)
     else if rget (kK K) v = 3 then rget (nob (kL K)) ((b - rget (kE K) v) % q_rB K v / 2) else rget (nob (kL K)) ((b - rget (kE K) v) % q_rB K v)) := by rw [q_nS, if_pos hc]
def trn (K : CK) (v : Int) : Prop := rget (kK K) v = 2 ∨ rget (kK K) v = 5
def pst (K : CK) (v b : Int) : Int := if 0 < q_rB K v then (b - rget (kE K) v).tdiv (q_rB K v) else 0
/-- how far above its note a voice sounds -/
def lft (K : CK) (v b : Int) : Int := (if rget (kK K) v = 4 then 4 else 0) + rget (kH K) v + kS K * pst K v b
/-- what a voice sounds at a beat; 999 -/
def sO (K : CK) (v b : Int) : Int := if q_nS K v b < 0 then 999 else (if rget (kK K) v = 2 ∨ rget (kK K) v = 5 then 2 * rget (kP K) 0 - rget (kP K) (q_nS K v b) else rget (kP K) (q_nS K v b)) + lft K v b
theorem pst_bd {K : CK} (w : wK K) {v b : Int} (hb : 0 ≤ b ∧ b ≤ 500) : -60 ≤ pst K v b ∧ pst K v b ≤ 500 := by
  have h1 := w.en v
  unfold pst
  split
  · rename_i hr
    rcases Int.le_total 0 (b - rget (kE K) v) with h | h
    · rw [Int.tdiv_eq_ediv_of_nonneg h]
      have := Int.ediv_nonneg h (Int.le_of_lt hr)
      have := Int.ediv_le_self (q_rB K v) h
      omega
    · have e := Int.neg_tdiv (-(b - rget (kE K) v)) (q_rB K v)
      rw [Int.neg_neg] at e
      have h2 : 0 ≤ -(b - rget (kE K) v) := by omega
      rw [Int.tdiv_eq_ediv_of_nonneg h2] at e
      have := Int.ediv_nonneg h2 (Int.le_of_lt hr)
      have := Int.ediv_le_self (q_rB K v) h2
      omega
  · omega
theorem lft_bd {K : CK} (w : wK K) {v b : Int} (hb : 0 ≤ b ∧ b ≤ 500) : -200 ≤ lft K v b ∧ lft K v b ≤ 1100 := by
  have h1 := w.hi v
  have h2 := pst_bd w (v := v) hb
  have h3 := w.sp
  have h4 : -120 ≤ kS K * pst K v b ∧ kS K * pst K v b ≤ 1000 := by
    rcases (show kS K = 0 ∨ kS K = 1 ∨ kS K = 2 by omega) with e | e | e <;> rw [e] <;> omega
  unfold lft
  split <;> omega
/-- while a voice sings -/
theorem pst_in {K : CK} (w : wK K) {v b : Int} (hn : 0 ≤ q_nS K v b) : 0 ≤ pst K v b ∧ pst K v b ≤ 3 := by
  have h1 : 0 < q_rB K v ∧ 0 ≤ b - rget (kE K) v ∧ b - rget (kE K) v < kR K * q_rB K v := by
    unfold q_nS at hn
    split at hn
    · assumption
    · omega
  obtain ⟨a1, a2, a3⟩ := h1
  unfold pst
  rw [if_pos a1, Int.tdiv_eq_ediv_of_nonneg a2]
  refine ⟨Int.ediv_nonneg a2 (Int.le_of_lt a1), ?_⟩
  have h4 := w.rd.2
  have : (b - rget (kE K) v) / q_rB K v < 4 := by
    apply Int.ediv_lt_of_lt_mul a1
    have : kR K * q_rB K v ≤ 4 * q_rB K v := Int.mul_le_mul_of_nonneg_right h4 (Int.le_of_lt a1)
    omega
  omega
theorem lft_in {K : CK} (w : wK K) {v b : Int} (hn : 0 ≤ q_nS K v b) : 0 ≤ lft K v b ∧ lft K v b ≤ 19 := by
  have h1 := w.hi v
  have h2 := pst_in w hn
  have h3 := w.sp
  have h4 : 0 ≤ kS K * pst K v b ∧ kS K * pst K v b ≤ 6 := mul_bd h3.1 h3.2 h2.1 h2.2
  unfold lft
  split <;> omega
theorem sO_bd {K : CK} (w : wK K) (v b : Int) : sO K v b = 999 ∨ (-9 ≤ sO K v b ∧ sO K v b ≤ 37) := by
  unfold sO
  by_cases hn : q_nS K v b < 0
  · rw [if_pos hn]; exact Or.inl rfl
  · rw [if_neg hn]
    have h1 := lft_in w (v := v) (b := b) (by omega)
    have h2 := w.pt (q_nS K v b)
    have h3 := w.pt 0
    right
    split <;> omega
/-! the canon's cells: c itself, its tune from c + 1 on, five rows from c + 8 on -/
def pCanon (h : AH) (c : Nat) (K : CK) (sg sd : List Int) : Prop :=
  h.2 c = some (aO 0 [aR (c + 1), aR (c + 8), aR (c + 10), aR (c + 12), aR (c + 14), aR (c + 16), aI (kR K), aI (kS K), aI (kW K)]) ∧ pTune h (c + 1) (kP K) (kL K) ∧
  pRow h (c + 8) 7 (kK K) ∧ pRow h (c + 10) 7 (kE K) ∧ pRow h (c + 12) 7 (kH K) ∧ pRow h (c + 14) 7 sg ∧ pRow h (c + 16) 7 sd
theorem pCanon.fr {h h' : AH} {c lo hi : Nat} {K : CK} {sg sd : List Int} (p : pCanon h c K sg sd) (f : Fr lo hi h h') (ha : c + 18 ≤ lo ∨ hi ≤ c) : pCanon h' c K sg sd :=
  ⟨f.at p.1 (by omega), p.2.1.fr f (by omega), p.2.2.1.fr f (by omega), p.2.2.2.1.fr f (by omega), p.2.2.2.2.1.fr f (by omega), p.2.2.2.2.2.1.fr f (by omega), p.2.2.2.2.2.2.fr f (by omega)⟩
set_option maxHeartbeats 4000000 in
set_option maxRecDepth 20000 in
theorem c_Canon_voices (G : Gx) {h : AH} {c : Nat} {K : CK} {sg sd : List Int} (hp : pCanon h c K sg sd) : Ct G Y_Canon_voices 1 0 0 [aR c] h (isR (some (aI (((kK K).length : Int)))) h) := by
  obtain ⟨c0, c1, c2, c3, c4, c5, c6⟩ := id hp
  have hbt : (nob (kL K)).length = bt K := rfl
  refine Ct.of_V mo_Canon_voices rfl (Nat.le_of_ble_eq_true rfl) rfl ?_
  refine v_aload_n k_Canon_voices_0 rfl ?_
  refine v_getf fl_Canon_23 c0 rfl k_Canon_voices_1 ?_
  refine v_callVr mo_Row_size mi_Row_size mv_Row_size lk_Canon_56 k_Canon_voices_4 c2.obj rfl rfl (Nat.le_of_ble_eq_true rfl) rfl (Nat.le_of_ble_eq_true rfl) (c_Row_size G c2) ?_
  refine v_ireturn k_Canon_voices_7 rfl rfl ?_
  exact ⟨rfl, rfl⟩

set_option maxHeartbeats 4000000 in
set_option maxRecDepth 20000 in
theorem c_Canon_hasVoice (G : Gx) {h : AH} {c : Nat} {K : CK} {sg sd : List Int} (hp : pCanon h c K sg sd) {v : Int} (hv : InR v) : Ct G Y_Canon_hasVoice 1 0 0 [aR c, aI v] h (isR (some (aI (if 0 ≤ v ∧ v < (kK K).length then 1 else 0))) h) := by
  obtain ⟨c0, c1, c2, c3, c4, c5, c6⟩ := id hp
  have hbt : (nob (kL K)).length = bt K := rfl
  refine Ct.of_V mo_Canon_hasVoice rfl (Nat.le_of_ble_eq_true rfl) rfl ?_
  refine v_aload_n k_Canon_hasVoice_0 rfl ?_
  refine v_getf fl_Canon_23 c0 rfl k_Canon_hasVoice_1 ?_
  refine v_iload_n k_Canon_hasVoice_4 rfl ?_
  refine v_callVr mo_Row_has mi_Row_has mv_Row_has lk_Canon_60 k_Canon_hasVoice_5 c2.obj rfl rfl (Nat.le_of_ble_eq_true rfl) rfl (Nat.le_of_ble_eq_true rfl) (c_Row_has G c2 (by omega)) ?_
  refine v_ireturn k_Canon_hasVoice_8 rfl (by split <;> rfl) ?_
  exact ⟨rfl, rfl⟩

set_option maxHeartbeats 4000000 in
set_option maxRecDepth 20000 in
theorem c_Canon_kindOf (G : Gx) {h : AH} {c : Nat} {K : CK} {sg sd : List Int} (hp : pCanon h c K sg sd) {v : Int} (hv : InR v) : Ct G Y_Canon_kindOf 1 0 0 [aR c, aI v] h (isR (some (aI (rget (kK K) v))) h) := by
  obtain ⟨c0, c1, c2, c3, c4, c5, c6⟩ := id hp
  have hbt : (nob (kL K)).length = bt K := rfl
  refine Ct.of_V mo_Canon_kindOf rfl (Nat.le_of_ble_eq_true rfl) rfl ?_
  refine v_aload_n k_Canon_kindOf_0 rfl ?_
  refine v_getf fl_Canon_23 c0 rfl k_Canon_kindOf_1 ?_
  refine v_iload_n k_Canon_kindOf_4 rfl ?_
  refine v_callVr mo_Row_get mi_Row_get mv_Row_get lk_Canon_64 k_Canon_kindOf_5 c2.obj rfl rfl (Nat.le_of_ble_eq_true rfl) rfl (Nat.le_of_ble_eq_true rfl) (c_Row_get G c2 (by omega)) ?_
  refine v_ireturn k_Canon_kindOf_8 rfl rfl ?_
  exact ⟨rfl, rfl⟩

set_option maxHeartbeats 4000000 in
set_option maxRecDepth 20000 in
theorem c_Canon_entryOf (G : Gx) {h : AH} {c : Nat} {K : CK} {sg sd : List Int} (hp : pCanon h c K sg sd) {v : Int} (hv : InR v) : Ct G Y_Canon_entryOf 1 0 0 [aR c, aI v] h (isR (some (aI (rget (kE K) v))) h) := by
  obtain ⟨c0, c1, c2, c3, c4, c5, c6⟩ := id hp
  have hbt : (nob (kL K)).length = bt K := rfl
  refine Ct.of_V mo_Canon_entryOf rfl (Nat.le_of_ble_eq_true rfl) rfl ?_
  refine v_aload_n k_Canon_entryOf_0 rfl ?_
  refine v_getf fl_Canon_27 c0 rfl k_Canon_entryOf_1 ?_
  refine v_iload_n k_Canon_entryOf_4 rfl ?_
  refine v_callVr mo_Row_get mi_Row_get mv_Row_get lk_Canon_64 k_Canon_entryOf_5 c3.obj rfl rfl (Nat.le_of_ble_eq_true rfl) rfl (Nat.le_of_ble_eq_true rfl) (c_Row_get G c3 (by omega)) ?_
  refine v_ireturn k_Canon_entryOf_8 rfl rfl ?_
  exact ⟨rfl, rfl⟩

set_option maxHeartbeats 4000000 in
set_option maxRecDepth 20000 in
theorem c_Canon_highOf (G : Gx) {h : AH} {c : Nat} {K : CK} {sg sd : List Int} (hp : pCanon h c K sg sd) {v : Int} (hv : InR v) : Ct G Y_Canon_highOf 1 0 0 [aR c, aI v] h (isR (some (aI (rget (kH K) v))) h) := by
  obtain ⟨c0, c1, c2, c3, c4, c5, c6⟩ := id hp
  have hbt : (nob (kL K)).length = bt K := rfl
  refine Ct.of_V mo_Canon_highOf rfl (Nat.le_of_ble_eq_true rfl) rfl ?_
  refine v_aload_n k_Canon_highOf_0 rfl ?_
  refine v_getf fl_Canon_30 c0 rfl k_Canon_highOf_1 ?_
  refine v_iload_n k_Canon_highOf_4 rfl ?_
  refine v_callVr mo_Row_get mi_Row_get mv_Row_get lk_Canon_64 k_Canon_highOf_5 c4.obj rfl rfl (Nat.le_of_ble_eq_true rfl) rfl (Nat.le_of_ble_eq_true rfl) (c_Row_get G c4 (by omega)) ?_
  refine v_ireturn k_Canon_highOf_8 rfl rfl ?_
  exact ⟨rfl, rfl⟩

set_option maxHeartbeats 4000000 in
set_option maxRecDepth 20000 in
theorem c_Canon_roundBeats (G : Gx) {h : AH} {c : Nat} {K : CK} {sg sd : List Int} (hp : pCanon h c K sg sd) (w : wK K) {v : Int} (hv : InR v) : Ct G Y_Canon_roundBeats 1 0 0 [aR c, aI v] h (isR (some (aI (q_rB K v))) h) := by
  obtain ⟨c0, c1, c2, c3, c4, c5, c6⟩ := id hp
  have hbt : (nob (kL K)).length = bt K := rfl
  have b1 := w.kd v
  refine Ct.of_V mo_Canon_roundBeats rfl (Nat.le_of_ble_eq_true rfl) rfl ?_
  refine v_aload_n k_Canon_roundBeats_0 rfl ?_
  refine v_getf fl_Canon_23 c0 rfl k_Canon_roundBeats_1 ?_
  refine v_iload_n k_Canon_roundBeats_4 rfl ?_
  refine v_callVr mo_Row_get mi_Row_get mv_Row_get lk_Canon_64 k_Canon_roundBeats_5 c2.obj rfl rfl (Nat.le_of_ble_eq_true rfl) rfl (Nat.le_of_ble_eq_true rfl) (c_Row_get G c2 (by omega)) ?_
  refine v_iconst k_Canon_roundBeats_8 ?_
  refine v_icne 24 k_Canon_roundBeats_9 rfl (by omega) (by omega) (fun c9 => ?_) (fun c9 => ?_)
  · refine v_aload_n k_Canon_roundBeats_24 rfl ?_
    refine v_getf fl_Canon_12 c0 rfl k_Canon_roundBeats_25 ?_
    refine v_getf fl_Canon_87 c1.1 rfl k_Canon_roundBeats_28 ?_
    refine v_ireturn k_Canon_roundBeats_31 rfl rfl ?_
    first
      | exact ⟨by rw [q_rB, if_pos (by omega)]; rfl, rfl⟩
      | exact ⟨by rw [q_rB, if_neg (by omega)]; rfl, rfl⟩
  · refine v_iconst k_Canon_roundBeats_12 ?_
    refine v_aload_n k_Canon_roundBeats_13 rfl ?_
    refine v_getf fl_Canon_12 c0 rfl k_Canon_roundBeats_14 ?_
    refine v_getf fl_Canon_87 c1.1 rfl k_Canon_roundBeats_17 ?_
    refine v_imul k_Canon_roundBeats_20 ?_
    refine v_goto k_Canon_roundBeats_21 (tgt := 31) rfl ?_
    refine v_ireturn k_Canon_roundBeats_31 rfl rfl ?_
    first
      | exact ⟨by rw [q_rB, if_pos (by omega)]; rfl, rfl⟩
      | exact ⟨by rw [q_rB, if_neg (by omega)]; rfl, rfl⟩

set_option maxHeartbeats 4000000 in
set_option maxRecDepth 20000 in
theorem c_Canon_stillFrom (G : Gx) {h : AH} {c : Nat} {K : CK} {sg sd : List Int} (hp : pCanon h c K sg sd) (w : wK K) {v : Int} (hv : InR v) : Ct G Y_Canon_stillFrom 2 0 0 [aR c, aI v] h (isR (some (aI (q_stl K v))) h) := by
  obtain ⟨c0, c1, c2, c3, c4, c5, c6⟩ := id hp
  have hbt : (nob (kL K)).length = bt K := rfl
  refine Ct.of_V mo_Canon_stillFrom rfl (Nat.le_of_ble_eq_true rfl) rfl ?_
  refine v_aload_n k_Canon_stillFrom_0 rfl ?_
  refine v_getf fl_Canon_27 c0 rfl k_Canon_stillFrom_1 ?_
  refine v_iload_n k_Canon_stillFrom_4 rfl ?_
  refine v_callVr mo_Row_get mi_Row_get mv_Row_get lk_Canon_64 k_Canon_stillFrom_5 c3.obj rfl rfl (Nat.le_of_ble_eq_true rfl) rfl (Nat.le_of_ble_eq_true rfl) (c_Row_get G c3 (by omega)) ?_
  refine v_aload_n k_Canon_stillFrom_8 rfl ?_
  refine v_getf fl_Canon_39 c0 rfl k_Canon_stillFrom_9 ?_
  refine v_aload_n k_Canon_stillFrom_12 rfl ?_
  refine v_iload_n k_Canon_stillFrom_13 rfl ?_
  refine v_callVr mo_Canon_roundBeats mi_Canon_roundBeats mv_Canon_roundBeats lk_Canon_90 k_Canon_stillFrom_14 c0 rfl rfl (Nat.le_of_ble_eq_true rfl) rfl (Nat.le_of_ble_eq_true rfl) (c_Canon_roundBeats G hp w (by omega)) ?_
  refine v_imul k_Canon_stillFrom_17 ?_
  refine v_iadd k_Canon_stillFrom_18 ?_
  refine v_ireturn k_Canon_stillFrom_19 rfl rfl ?_
  exact ⟨rfl, rfl⟩

set_option maxHeartbeats 4000000 in
set_option maxRecDepth 20000 in
theorem c_Canon_end (G : Gx) {h : AH} {c : Nat} {K : CK} {sg sd : List Int} (hp : pCanon h c K sg sd) (w : wK K) : Ct G Y_Canon_end 3 0 0 [aR c] h (isR (some (aI (q_endK K))) h) := by
  obtain ⟨c0, c1, c2, c3, c4, c5, c6⟩ := id hp
  have b0 := w.bb
  have hbt : (nob (kL K)).length = bt K := rfl
  have b1 := w.nv
  refine Ct.of_V mo_Canon_end rfl (Nat.le_of_ble_eq_true rfl) rfl ?_
  have loop : ∀ (k i : Nat), (kK K).length < i + k → i ≤ (kK K).length → 0 < bt K ∨ i = 0 → V G Y_Canon_end 3 0 0 4 [some (aR c), some (aI (q_endF K i)), some (aI i)] [] h (isR (some (aI (q_endK K))) h) := by
    intro k
    induction k with
    | zero => intro i h1 h2; omega
    | succ k ih =>
      intro i h1 h2 h3
      have b2 := w.endF i
      have b3 := w.stl i
      refine v_iload_n k_Canon_end_4 rfl ?_
      refine v_aload_n k_Canon_end_5 rfl ?_
      refine v_callVr mo_Canon_voices mi_Canon_voices mv_Canon_voices lk_Canon_80 k_Canon_end_6 c0 rfl rfl (Nat.le_of_ble_eq_true rfl) rfl (Nat.le_of_ble_eq_true rfl) (c_Canon_voices G hp) ?_
      refine v_icge 38 k_Canon_end_9 rfl (by omega) (by omega) (fun c9 => ?_) (fun c9 => ?_)
      · refine v_iload_n k_Canon_end_38 rfl ?_
        refine v_ireturn k_Canon_end_39 rfl rfl ?_
        rcases Nat.eq_zero_or_pos (bt K) with hb | hb
        · have hi0 : i = 0 := by omega
          subst hi0
          exact ⟨by rw [q_endK, if_neg (by omega)]; rfl, rfl⟩
        · have hi0 : i = (kK K).length := by omega
          exact ⟨by rw [q_endK, if_pos hb, hi0], rfl⟩
      · refine v_aload_n k_Canon_end_12 rfl ?_
        refine v_getf fl_Canon_12 c0 rfl k_Canon_end_13 ?_
        refine v_getf fl_Canon_87 c1.1 rfl k_Canon_end_16 ?_
        refine v_ifle 38 k_Canon_end_19 rfl (by omega) (fun c19 => ?_) (fun c19 => ?_)
        · refine v_iload_n k_Canon_end_38 rfl ?_
          refine v_ireturn k_Canon_end_39 rfl rfl ?_
          rcases Nat.eq_zero_or_pos (bt K) with hb | hb
          · have hi0 : i = 0 := by omega
            subst hi0
            exact ⟨by rw [q_endK, if_neg (by omega)]; rfl, rfl⟩
          · have hi0 : i = (kK K).length := by omega
            exact ⟨by rw [q_endK, if_pos hb, hi0], rfl⟩
        · refine v_iload_n k_Canon_end_22 rfl ?_
          refine v_aload_n k_Canon_end_23 rfl ?_
          refine v_iload_n k_Canon_end_24 rfl ?_
          refine v_callVr mo_Canon_stillFrom mi_Canon_stillFrom mv_Canon_stillFrom lk_Canon_93 k_Canon_end_25 c0 rfl rfl (Nat.le_of_ble_eq_true rfl) rfl (Nat.le_of_ble_eq_true rfl) (c_Canon_stillFrom G hp w (by omega)) ?_
          refine v_mmax k_Canon_end_28 lm_Canon_96 (by omega) (by omega) (Nat.le_of_ble_eq_true rfl) (Nat.le_of_ble_eq_true rfl) ?_
          refine v_istore_n k_Canon_end_31 ⟨Nat.le_of_ble_eq_true rfl, Nat.le_of_ble_eq_true rfl⟩ ?_
          refine v_iinc k_Canon_end_32 rfl (Nat.le_of_ble_eq_true rfl) ?_
          refine v_goto k_Canon_end_35 (tgt := 4) rfl ?_
          exact ih (i + 1) (by omega) (by omega) (by omega)
  refine v_iconst k_Canon_end_0 ?_
  refine v_istore_n k_Canon_end_1 ⟨Nat.le_of_ble_eq_true rfl, Nat.le_of_ble_eq_true rfl⟩ ?_
  refine v_iconst k_Canon_end_2 ?_
  refine v_istore_n k_Canon_end_3 ⟨Nat.le_of_ble_eq_true rfl, Nat.le_of_ble_eq_true rfl⟩ ?_
  exact loop 8 0 (by omega) (by omega) (Or.inr rfl)

set_option maxHeartbeats 4000000 in
set_option maxRecDepth 20000 in
theorem c_Canon_isTurned (G : Gx) {h : AH} {c : Nat} {K : CK} {sg sd : List Int} (hp : pCanon h c K sg sd) (w : wK K) {v : Int} (hv : InR v) : Ct G Y_Canon_isTurned 1 0 0 [aR c, aI v] h (isR (some (aI (if rget (kK K) v = 2 ∨ rget (kK K) v = 5 then 1 else 0))) h) := by
  obtain ⟨c0, c1, c2, c3, c4, c5, c6⟩ := id hp
  have hbt : (nob (kL K)).length = bt K := rfl
  have b1 := w.kd v
  refine Ct.of_V mo_Canon_isTurned rfl (Nat.le_of_ble_eq_true rfl) rfl ?_
  refine v_aload_n k_Canon_isTurned_0 rfl ?_
  refine v_getf fl_Canon_23 c0 rfl k_Canon_isTurned_1 ?_
  refine v_iload_n k_Canon_isTurned_4 rfl ?_
  refine v_callVr mo_Row_get mi_Row_get mv_Row_get lk_Canon_64 k_Canon_isTurned_5 c2.obj rfl rfl (Nat.le_of_ble_eq_true rfl) rfl (Nat.le_of_ble_eq_true rfl) (c_Row_get G c2 (by omega)) ?_
  refine v_istore_n k_Canon_isTurned_8 ⟨Nat.le_of_ble_eq_true rfl, Nat.le_of_ble_eq_true rfl⟩ ?_
  refine v_iload_n k_Canon_isTurned_9 rfl ?_
  refine v_iconst k_Canon_isTurned_10 ?_
  refine v_iceq 19 k_Canon_isTurned_11 rfl (by omega) (by omega) (fun c11 => ?_) (fun c11 => ?_)
  · refine v_iconst k_Canon_isTurned_19 ?_
    refine v_goto k_Canon_isTurned_20 (tgt := 24) rfl ?_
    refine v_ireturn k_Canon_isTurned_24 rfl (by first | rfl | (split <;> rfl)) ?_
    first
      | exact ⟨by rw [if_pos (by omega)], rfl⟩
      | exact ⟨by rw [if_neg (by omega)], rfl⟩
  · refine v_iload_n k_Canon_isTurned_14 rfl ?_
    refine v_iconst k_Canon_isTurned_15 ?_
    refine v_icne 23 k_Canon_isTurned_16 rfl (by omega) (by omega) (fun c16 => ?_) (fun c16 => ?_)
    · refine v_iconst k_Canon_isTurned_23 ?_
      refine v_ireturn k_Canon_isTurned_24 rfl (by first | rfl | (split <;> rfl)) ?_
      first
        | exact ⟨by rw [if_pos (by omega)], rfl⟩
        | exact ⟨by rw [if_neg (by omega)], rfl⟩
    · refine v_iconst k_Canon_isTurned_19 ?_
      refine v_goto k_Canon_isTurned_20 (tgt := 24) rfl ?_
      refine v_ireturn k_Canon_isTurned_24 rfl (by first | rfl | (split <;> rfl)) ?_
      first
        | exact ⟨by rw [if_pos (by omega)], rfl⟩
        | exact ⟨by rw [if_neg (by omega)], rfl⟩

set_option maxHeartbeats 4000000 in
set_option maxRecDepth 20000 in
theorem c_Canon_lift (G : Gx) {h : AH} {c : Nat} {K : CK} {sg sd : List Int} (hp : pCanon h c K sg sd) (w : wK K) {v b : Int} (hv : InR v) (hb : 0 ≤ b ∧ b ≤ 500) : Ct G Y_Canon_lift 2 0 0 [aR c, aI v, aI b] h (isR (some (aI (lft K v b))) h) := by
  obtain ⟨c0, c1, c2, c3, c4, c5, c6⟩ := id hp
  have hbt : (nob (kL K)).length = bt K := rfl
  have b1 := w.kd v
  have b2 := w.rB v
  have b3 := w.en v
  refine Ct.of_V mo_Canon_lift rfl (Nat.le_of_ble_eq_true rfl) rfl ?_
  refine v_aload_n k_Canon_lift_0 rfl ?_
  refine v_iload_n k_Canon_lift_1 rfl ?_
  refine v_callVr mo_Canon_roundBeats mi_Canon_roundBeats mv_Canon_roundBeats lk_Canon_90 k_Canon_lift_2 c0 rfl rfl (Nat.le_of_ble_eq_true rfl) rfl (Nat.le_of_ble_eq_true rfl) (c_Canon_roundBeats G hp w (by omega)) ?_
  refine v_istore_n k_Canon_lift_5 ⟨Nat.le_of_ble_eq_true rfl, Nat.le_of_ble_eq_true rfl⟩ ?_
  refine v_iload_n k_Canon_lift_6 rfl ?_
  refine v_ifle 25 k_Canon_lift_7 rfl (by omega) (fun c7 => ?_) (fun c7 => ?_)
  · refine v_iconst k_Canon_lift_25 ?_
    refine v_istore k_Canon_lift_26 ⟨Nat.le_of_ble_eq_true rfl, Nat.le_of_ble_eq_true rfl⟩ ?_
    refine v_aload_n k_Canon_lift_28 rfl ?_
    refine v_getf fl_Canon_23 c0 rfl k_Canon_lift_29 ?_
    refine v_iload_n k_Canon_lift_32 rfl ?_
    refine v_callVr mo_Row_get mi_Row_get mv_Row_get lk_Canon_64 k_Canon_lift_33 c2.obj rfl rfl (Nat.le_of_ble_eq_true rfl) rfl (Nat.le_of_ble_eq_true rfl) (c_Row_get G c2 (by omega)) ?_
    refine v_iconst k_Canon_lift_36 ?_
    refine v_icne 44 k_Canon_lift_37 rfl (by omega) (by omega) (fun c37 => ?_) (fun c37 => ?_)
    · refine v_iconst k_Canon_lift_44 ?_
      refine v_istore k_Canon_lift_45 ⟨Nat.le_of_ble_eq_true rfl, Nat.le_of_ble_eq_true rfl⟩ ?_
      refine v_iload k_Canon_lift_47 rfl ?_
      refine v_aload_n k_Canon_lift_49 rfl ?_
      refine v_getf fl_Canon_30 c0 rfl k_Canon_lift_50 ?_
      refine v_iload_n k_Canon_lift_53 rfl ?_
      refine v_callVr mo_Row_get mi_Row_get mv_Row_get lk_Canon_64 k_Canon_lift_54 c4.obj rfl rfl (Nat.le_of_ble_eq_true rfl) rfl (Nat.le_of_ble_eq_true rfl) (c_Row_get G c4 (by omega)) ?_
      refine v_iadd k_Canon_lift_57 ?_
      refine v_aload_n k_Canon_lift_58 rfl ?_
      refine v_getf fl_Canon_43 c0 rfl k_Canon_lift_59 ?_
      refine v_iload k_Canon_lift_62 rfl ?_
      refine v_imul k_Canon_lift_64 ?_
      refine v_iadd k_Canon_lift_65 ?_
      refine v_ireturn k_Canon_lift_66 rfl rfl ?_
      refine ⟨?_, rfl⟩
      rw [lft, pst]
      first
        | (rw [if_pos (by omega), if_pos (by omega)]; done)
        | (rw [if_neg (by omega), if_pos (by omega)]; done)
        | (rw [if_pos (by omega), if_neg (by omega)]; done)
        | (rw [if_neg (by omega), if_neg (by omega)]; done)
    · refine v_iconst k_Canon_lift_40 ?_
      refine v_goto k_Canon_lift_41 (tgt := 45) rfl ?_
      refine v_istore k_Canon_lift_45 ⟨Nat.le_of_ble_eq_true rfl, Nat.le_of_ble_eq_true rfl⟩ ?_
      refine v_iload k_Canon_lift_47 rfl ?_
      refine v_aload_n k_Canon_lift_49 rfl ?_
      refine v_getf fl_Canon_30 c0 rfl k_Canon_lift_50 ?_
      refine v_iload_n k_Canon_lift_53 rfl ?_
      refine v_callVr mo_Row_get mi_Row_get mv_Row_get lk_Canon_64 k_Canon_lift_54 c4.obj rfl rfl (Nat.le_of_ble_eq_true rfl) rfl (Nat.le_of_ble_eq_true rfl) (c_Row_get G c4 (by omega)) ?_
      refine v_iadd k_Canon_lift_57 ?_
      refine v_aload_n k_Canon_lift_58 rfl ?_
      refine v_getf fl_Canon_43 c0 rfl k_Canon_lift_59 ?_
      refine v_iload k_Canon_lift_62 rfl ?_
      refine v_imul k_Canon_lift_64 ?_
      refine v_iadd k_Canon_lift_65 ?_
      refine v_ireturn k_Canon_lift_66 rfl rfl ?_
      refine ⟨?_, rfl⟩
      rw [lft, pst]
      first
        | (rw [if_pos (by omega), if_pos (by omega)]; done)
        | (rw [if_neg (by omega), if_pos (by omega)]; done)
        | (rw [if_pos (by omega), if_neg (by omega)]; done)
        | (rw [if_neg (by omega), if_neg (by omega)]; done)
  · refine v_iload_n k_Canon_lift_10 rfl ?_
    refine v_aload_n k_Canon_lift_11 rfl ?_
    refine v_getf fl_Canon_27 c0 rfl k_Canon_lift_12 ?_
    refine v_iload_n k_Canon_lift_15 rfl ?_
    refine v_callVr mo_Row_get mi_Row_get mv_Row_get lk_Canon_64 k_Canon_lift_16 c3.obj rfl rfl (Nat.le_of_ble_eq_true rfl) rfl (Nat.le_of_ble_eq_true rfl) (c_Row_get G c3 (by omega)) ?_
    refine v_isub k_Canon_lift_19 ?_
    refine v_iload_n k_Canon_lift_20 rfl ?_
    refine v_idiv k_Canon_lift_21 (by omega) (by omega) ?_
    refine v_goto k_Canon_lift_22 (tgt := 26) rfl ?_
    refine v_istore k_Canon_lift_26 ⟨Nat.le_of_ble_eq_true rfl, Nat.le_of_ble_eq_true rfl⟩ ?_
    refine v_aload_n k_Canon_lift_28 rfl ?_
    refine v_getf fl_Canon_23 c0 rfl k_Canon_lift_29 ?_
    refine v_iload_n k_Canon_lift_32 rfl ?_
    refine v_callVr mo_Row_get mi_Row_get mv_Row_get lk_Canon_64 k_Canon_lift_33 c2.obj rfl rfl (Nat.le_of_ble_eq_true rfl) rfl (Nat.le_of_ble_eq_true rfl) (c_Row_get G c2 (by omega)) ?_
    refine v_iconst k_Canon_lift_36 ?_
    refine v_icne 44 k_Canon_lift_37 rfl (by omega) (by omega) (fun c37 => ?_) (fun c37 => ?_)
    · refine v_iconst k_Canon_lift_44 ?_
      refine v_istore k_Canon_lift_45 ⟨Nat.le_of_ble_eq_true rfl, Nat.le_of_ble_eq_true rfl⟩ ?_
      refine v_iload k_Canon_lift_47 rfl ?_
      refine v_aload_n k_Canon_lift_49 rfl ?_
      refine v_getf fl_Canon_30 c0 rfl k_Canon_lift_50 ?_
      refine v_iload_n k_Canon_lift_53 rfl ?_
      refine v_callVr mo_Row_get mi_Row_get mv_Row_get lk_Canon_64 k_Canon_lift_54 c4.obj rfl rfl (Nat.le_of_ble_eq_true rfl) rfl (Nat.le_of_ble_eq_true rfl) (c_Row_get G c4 (by omega)) ?_
      refine v_iadd k_Canon_lift_57 ?_
      refine v_aload_n k_Canon_lift_58 rfl ?_
      refine v_getf fl_Canon_43 c0 rfl k_Canon_lift_59 ?_
      refine v_iload k_Canon_lift_62 rfl ?_
      refine v_imul k_Canon_lift_64 ?_
      refine v_iadd k_Canon_lift_65 ?_
      refine v_ireturn k_Canon_lift_66 rfl rfl ?_
      refine ⟨?_, rfl⟩
      rw [lft, pst]
      first
        | (rw [if_pos (by omega), if_pos (by omega)]; done)
        | (rw [if_neg (by omega), if_pos (by omega)]; done)
        | (rw [if_pos (by omega), if_neg (by omega)]; done)
        | (rw [if_neg (by omega), if_neg (by omega)]; done)
    · refine v_iconst k_Canon_lift_40 ?_
      refine v_goto k_Canon_lift_41 (tgt := 45) rfl ?_
      refine v_istore k_Canon_lift_45 ⟨Nat.le_of_ble_eq_true rfl, Nat.le_of_ble_eq_true rfl⟩ ?_
      refine v_iload k_Canon_lift_47 rfl ?_
      refine v_aload_n k_Canon_lift_49 rfl ?_
      refine v_getf fl_Canon_30 c0 rfl k_Canon_lift_50 ?_
      refine v_iload_n k_Canon_lift_53 rfl ?_
      refine v_callVr mo_Row_get mi_Row_get mv_Row_get lk_Canon_64 k_Canon_lift_54 c4.obj rfl rfl (Nat.le_of_ble_eq_true rfl) rfl (Nat.le_of_ble_eq_true rfl) (c_Row_get G c4 (by omega)) ?_
      refine v_iadd k_Canon_lift_57 ?_
      refine v_aload_n k_Canon_lift_58 rfl ?_
      refine v_getf fl_Canon_43 c0 rfl k_Canon_lift_59 ?_
      refine v_iload k_Canon_lift_62 rfl ?_
      refine v_imul k_Canon_lift_64 ?_
      refine v_iadd k_Canon_lift_65 ?_
      refine v_ireturn k_Canon_lift_66 rfl rfl ?_
      refine ⟨?_, rfl⟩
      rw [lft, pst]
      first
        | (rw [if_pos (by omega), if_pos (by omega)]; done)
        | (rw [if_neg (by omega), if_pos (by omega)]; done)
        | (rw [if_pos (by omega), if_neg (by omega)]; done)
        | (rw [if_neg (by omega), if_neg (by omega)]; done)

set_option maxHeartbeats 4000000 in
set_option maxRecDepth 20000 in
theorem c_Canon_noteSung (G : Gx) {h : AH} {c : Nat} {K : CK} {sg sd : List Int} (hp : pCanon h c K sg sd) (w : wK K) {v b : Int} (hv : InR v) (hb : 0 ≤ b ∧ b ≤ 500) : Ct G Y_Canon_noteSung 2 0 0 [aR c, aI v, aI b] h (isR (some (aI (q_nS K v b))) h) := by
  obtain ⟨c0, c1, c2, c3, c4, c5, c6⟩ := id hp
  have hbt : (nob (kL K)).length = bt K := rfl
  have b1 := w.kd v
  have b2 := w.rB v
  have b3 := w.en v
  have b4 := w.rr v
  have b5 := w.bb
  refine Ct.of_V mo_Canon_noteSung rfl (Nat.le_of_ble_eq_true rfl) rfl ?_
  refine v_aload_n k_Canon_noteSung_0 rfl ?_
  refine v_iload_n k_Canon_noteSung_1 rfl ?_
  refine v_callVr mo_Canon_roundBeats mi_Canon_roundBeats mv_Canon_roundBeats lk_Canon_90 k_Canon_noteSung_2 c0 rfl rfl (Nat.le_of_ble_eq_true rfl) rfl (Nat.le_of_ble_eq_true rfl) (c_Canon_roundBeats G hp w (by omega)) ?_
  refine v_istore_n k_Canon_noteSung_5 ⟨Nat.le_of_ble_eq_true rfl, Nat.le_of_ble_eq_true rfl⟩ ?_
  refine v_iload_n k_Canon_noteSung_6 rfl ?_
  refine v_aload_n k_Canon_noteSung_7 rfl ?_
  refine v_getf fl_Canon_27 c0 rfl k_Canon_noteSung_8 ?_
  refine v_iload_n k_Canon_noteSung_11 rfl ?_
  refine v_callVr mo_Row_get mi_Row_get mv_Row_get lk_Canon_64 k_Canon_noteSung_12 c3.obj rfl rfl (Nat.le_of_ble_eq_true rfl) rfl (Nat.le_of_ble_eq_true rfl) (c_Row_get G c3 (by omega)) ?_
  refine v_isub k_Canon_noteSung_15 ?_
  refine v_istore k_Canon_noteSung_16 ⟨Nat.le_of_ble_eq_true rfl, Nat.le_of_ble_eq_true rfl⟩ ?_
  refine v_iload_n k_Canon_noteSung_18 rfl ?_
  refine v_ifle 38 k_Canon_noteSung_19 rfl (by omega) (fun c19 => ?_) (fun c19 => ?_)
  · refine v_iconst k_Canon_noteSung_38 ?_
    refine v_ireturn k_Canon_noteSung_39 rfl rfl ?_
    exact ⟨by rw [q_nS, if_neg (by omega)], rfl⟩
  · refine v_iload k_Canon_noteSung_22 rfl ?_
    refine v_iflt 38 k_Canon_noteSung_24 rfl (by omega) (fun c24 => ?_) (fun c24 => ?_)
    · refine v_iconst k_Canon_noteSung_38 ?_
      refine v_ireturn k_Canon_noteSung_39 rfl rfl ?_
      exact ⟨by rw [q_nS, if_neg (by omega)], rfl⟩
    · refine v_iload k_Canon_noteSung_27 rfl ?_
      refine v_aload_n k_Canon_noteSung_29 rfl ?_
      refine v_getf fl_Canon_39 c0 rfl k_Canon_noteSung_30 ?_
      refine v_iload_n k_Canon_noteSung_33 rfl ?_
      refine v_imul k_Canon_noteSung_34 ?_
      refine v_iclt 40 k_Canon_noteSung_35 rfl (by omega) (by omega) (fun c35 => ?_) (fun c35 => ?_)
      · refine v_iload k_Canon_noteSung_40 rfl ?_
        refine v_iload_n k_Canon_noteSung_42 rfl ?_
        refine v_irem k_Canon_noteSung_43 (by omega) (by omega) ?_
        have hc : 0 < q_rB K v ∧ 0 ≤ b - rget (kE K) v ∧ b - rget (kE K) v < kR K * q_rB K v := by omega
        have hnS := nS_in hc
        rw [Int.tmod_eq_emod_of_nonneg hc.2.1]
        have b6 := Int.emod_nonneg (b - rget (kE K) v) (show q_rB K v ≠ 0 by omega)
        have b7 := Int.emod_lt_of_pos (b - rget (kE K) v) hc.1
        generalize (b - rget (kE K) v) % q_rB K v = j at hnS b6 b7 ⊢
        have e2 : j.tdiv 2 = j / 2 := Int.tdiv_eq_ediv_of_nonneg b6
        refine v_istore k_Canon_noteSung_44 ⟨Nat.le_of_ble_eq_true rfl, Nat.le_of_ble_eq_true rfl⟩ ?_
        refine v_aload_n k_Canon_noteSung_46 rfl ?_
        refine v_getf fl_Canon_23 c0 rfl k_Canon_noteSung_47 ?_
        refine v_iload_n k_Canon_noteSung_50 rfl ?_
        refine v_callVr mo_Row_get mi_Row_get mv_Row_get lk_Canon_64 k_Canon_noteSung_51 c2.obj rfl rfl (Nat.le_of_ble_eq_true rfl) rfl (Nat.le_of_ble_eq_true rfl) (c_Row_get G c2 (by omega)) ?_
        rcases (show rget (kK K) v = 0 ∨ rget (kK K) v = 1 ∨ rget (kK K) v = 2 ∨ rget (kK K) v = 3 ∨ rget (kK K) v = 4 ∨ rget (kK K) v = 5 by omega) with e | e | e | e | e | e
        · rw [e]
          refine v_tableOut 120 k_Canon_noteSung_54 (by decide) (by decide) rfl ?_
          refine v_aload_n k_Canon_noteSung_120 rfl ?_
          refine v_getf fl_Canon_12 c0 rfl k_Canon_noteSung_121 ?_
          refine v_iload k_Canon_noteSung_124 rfl ?_
          refine v_callVr mo_Tune_noteAt mi_Tune_noteAt mv_Tune_noteAt lk_Canon_102 k_Canon_noteSung_126 c1.1 rfl rfl (Nat.le_of_ble_eq_true rfl) rfl (Nat.le_of_ble_eq_true rfl) (c_Tune_noteAt G c1 (by omega)) ?_
          refine v_ireturn k_Canon_noteSung_129 rfl rfl ?_
          exact ⟨by rw [hnS]; simp [e, hbt, e2], rfl⟩
        · rw [e]
          refine v_tableIn 88 k_Canon_noteSung_54 (by decide) (by decide) (by decide) rfl rfl ?_
          refine v_aload_n k_Canon_noteSung_88 rfl ?_
          refine v_getf fl_Canon_12 c0 rfl k_Canon_noteSung_89 ?_
          refine v_aload_n k_Canon_noteSung_92 rfl ?_
          refine v_getf fl_Canon_12 c0 rfl k_Canon_noteSung_93 ?_
          refine v_getf fl_Canon_87 c1.1 rfl k_Canon_noteSung_96 ?_
          refine v_iconst k_Canon_noteSung_99 ?_
          refine v_isub k_Canon_noteSung_100 ?_
          refine v_iload k_Canon_noteSung_101 rfl ?_
          refine v_isub k_Canon_noteSung_103 ?_
          refine v_callVr mo_Tune_noteAt mi_Tune_noteAt mv_Tune_noteAt lk_Canon_102 k_Canon_noteSung_104 c1.1 rfl rfl (Nat.le_of_ble_eq_true rfl) rfl (Nat.le_of_ble_eq_true rfl) (c_Tune_noteAt G c1 (by omega)) ?_
          refine v_ireturn k_Canon_noteSung_107 rfl rfl ?_
          exact ⟨by rw [hnS]; simp [e, hbt, e2], rfl⟩
        · rw [e]
          refine v_tableIn 120 k_Canon_noteSung_54 (by decide) (by decide) (by decide) rfl rfl ?_
          refine v_aload_n k_Canon_noteSung_120 rfl ?_
          refine v_getf fl_Canon_12 c0 rfl k_Canon_noteSung_121 ?_
          refine v_iload k_Canon_noteSung_124 rfl ?_
          refine v_callVr mo_Tune_noteAt mi_Tune_noteAt mv_Tune_noteAt lk_Canon_102 k_Canon_noteSung_126 c1.1 rfl rfl (Nat.le_of_ble_eq_true rfl) rfl (Nat.le_of_ble_eq_true rfl) (c_Tune_noteAt G c1 (by omega)) ?_
          refine v_ireturn k_Canon_noteSung_129 rfl rfl ?_
          exact ⟨by rw [hnS]; simp [e, hbt, e2], rfl⟩
        · rw [e]
          refine v_tableIn 108 k_Canon_noteSung_54 (by decide) (by decide) (by decide) rfl rfl ?_
          refine v_aload_n k_Canon_noteSung_108 rfl ?_
          refine v_getf fl_Canon_12 c0 rfl k_Canon_noteSung_109 ?_
          refine v_iload k_Canon_noteSung_112 rfl ?_
          refine v_iconst k_Canon_noteSung_114 ?_
          refine v_idiv k_Canon_noteSung_115 (by omega) (by omega) ?_
          refine v_callVr mo_Tune_noteAt mi_Tune_noteAt mv_Tune_noteAt lk_Canon_102 k_Canon_noteSung_116 c1.1 rfl rfl (Nat.le_of_ble_eq_true rfl) rfl (Nat.le_of_ble_eq_true rfl) (c_Tune_noteAt G c1 (by omega)) ?_
          refine v_ireturn k_Canon_noteSung_119 rfl rfl ?_
          exact ⟨by rw [hnS]; simp [e, hbt, e2], rfl⟩
        · rw [e]
          refine v_tableIn 120 k_Canon_noteSung_54 (by decide) (by decide) (by decide) rfl rfl ?_
          refine v_aload_n k_Canon_noteSung_120 rfl ?_
          refine v_getf fl_Canon_12 c0 rfl k_Canon_noteSung_121 ?_
          refine v_iload k_Canon_noteSung_124 rfl ?_
          refine v_callVr mo_Tune_noteAt mi_Tune_noteAt mv_Tune_noteAt lk_Canon_102 k_Canon_noteSung_126 c1.1 rfl rfl (Nat.le_of_ble_eq_true rfl) rfl (Nat.le_of_ble_eq_true rfl) (c_Tune_noteAt G c1 (by omega)) ?_
          refine v_ireturn k_Canon_noteSung_129 rfl rfl ?_
          exact ⟨by rw [hnS]; simp [e, hbt, e2], rfl⟩
        · rw [e]
          refine v_tableIn 88 k_Canon_noteSung_54 (by decide) (by decide) (by decide) rfl rfl ?_
          refine v_aload_n k_Canon_noteSung_88 rfl ?_
          refine v_getf fl_Canon_12 c0 rfl k_Canon_noteSung_89 ?_
          refine v_aload_n k_Canon_noteSung_92 rfl ?_
          refine v_getf fl_Canon_12 c0 rfl k_Canon_noteSung_93 ?_
          refine v_getf fl_Canon_87 c1.1 rfl k_Canon_noteSung_96 ?_
          refine v_iconst k_Canon_noteSung_99 ?_
          refine v_isub k_Canon_noteSung_100 ?_
          refine v_iload k_Canon_noteSung_101 rfl ?_
          refine v_isub k_Canon_noteSung_103 ?_
          refine v_callVr mo_Tune_noteAt mi_Tune_noteAt mv_Tune_noteAt lk_Canon_102 k_Canon_noteSung_104 c1.1 rfl rfl (Nat.le_of_ble_eq_true rfl) rfl (Nat.le_of_ble_eq_true rfl) (c_Tune_noteAt G c1 (by omega)) ?_
          refine v_ireturn k_Canon_noteSung_107 rfl rfl ?_
          exact ⟨by rw [hnS]; simp [e, hbt, e2], rfl⟩
      · refine v_iconst k_Canon_noteSung_38 ?_
        refine v_ireturn k_Canon_noteSung_39 rfl rfl ?_
        exact ⟨by rw [q_nS, if_neg (by omega)], rfl⟩

set_option maxHeartbeats 4000000 in
set_option maxRecDepth 20000 in
theorem c_Canon_soundOf (G : Gx) {h : AH} {c : Nat} {K : CK} {sg sd : List Int} (hp : pCanon h c K sg sd) (w : wK K) {v b : Int} (hv : InR v) (hb : 0 ≤ b ∧ b ≤ 500) : Ct G Y_Canon_soundOf 3 0 0 [aR c, aI v, aI b] h (isR (some (aI (sO K v b))) h) := by
  obtain ⟨c0, c1, c2, c3, c4, c5, c6⟩ := id hp
  have hbt : (nob (kL K)).length = bt K := rfl
  have b1 := w.nS v b
  refine Ct.of_V mo_Canon_soundOf rfl (Nat.le_of_ble_eq_true rfl) rfl ?_
  refine v_aload_n k_Canon_soundOf_0 rfl ?_
  refine v_iload_n k_Canon_soundOf_1 rfl ?_
  refine v_iload_n k_Canon_soundOf_2 rfl ?_
  refine v_callVr mo_Canon_noteSung mi_Canon_noteSung mv_Canon_noteSung lk_Canon_105 k_Canon_soundOf_3 c0 rfl rfl (Nat.le_of_ble_eq_true rfl) rfl (Nat.le_of_ble_eq_true rfl) (c_Canon_noteSung G hp w (by omega) (by omega)) ?_
  refine v_istore_n k_Canon_soundOf_6 ⟨Nat.le_of_ble_eq_true rfl, Nat.le_of_ble_eq_true rfl⟩ ?_
  refine v_iload_n k_Canon_soundOf_7 rfl ?_
  refine v_ifge 15 k_Canon_soundOf_8 rfl (by omega) (fun c8 => ?_) (fun c8 => ?_)
  · refine v_aload_n k_Canon_soundOf_15 rfl ?_
    refine v_getf fl_Canon_12 c0 rfl k_Canon_soundOf_16 ?_
    refine v_iload_n k_Canon_soundOf_19 rfl ?_
    refine v_callVr mo_Tune_pitchOf mi_Tune_pitchOf mv_Tune_pitchOf lk_Canon_108 k_Canon_soundOf_20 c1.1 rfl rfl (Nat.le_of_ble_eq_true rfl) rfl (Nat.le_of_ble_eq_true rfl) (c_Tune_pitchOf G c1 (by omega)) ?_
    refine v_istore k_Canon_soundOf_23 ⟨Nat.le_of_ble_eq_true rfl, Nat.le_of_ble_eq_true rfl⟩ ?_
    refine v_aload_n k_Canon_soundOf_25 rfl ?_
    refine v_iload_n k_Canon_soundOf_26 rfl ?_
    refine v_callVr mo_Canon_isTurned mi_Canon_isTurned mv_Canon_isTurned lk_Canon_111 k_Canon_soundOf_27 c0 rfl rfl (Nat.le_of_ble_eq_true rfl) rfl (Nat.le_of_ble_eq_true rfl) (c_Canon_isTurned G hp w (by omega)) ?_
    refine v_ifeq 49 k_Canon_soundOf_30 rfl (by split <;> decide) (fun c30 => ?_) (fun c30 => ?_)
    · refine v_iload k_Canon_soundOf_49 rfl ?_
      refine v_istore k_Canon_soundOf_51 ⟨Nat.le_of_ble_eq_true rfl, Nat.le_of_ble_eq_true rfl⟩ ?_
      refine v_iload k_Canon_soundOf_53 rfl ?_
      refine v_aload_n k_Canon_soundOf_55 rfl ?_
      refine v_iload_n k_Canon_soundOf_56 rfl ?_
      refine v_iload_n k_Canon_soundOf_57 rfl ?_
      refine v_callVr mo_Canon_lift mi_Canon_lift mv_Canon_lift lk_Canon_114 k_Canon_soundOf_58 c0 rfl rfl (Nat.le_of_ble_eq_true rfl) rfl (Nat.le_of_ble_eq_true rfl) (c_Canon_lift G hp w (by omega) (by omega)) ?_
      refine v_iadd k_Canon_soundOf_61 ?_
      refine v_ireturn k_Canon_soundOf_62 rfl rfl ?_
      refine ⟨?_, rfl⟩
      rw [sO]
      first
        | (rw [if_pos (by omega)]; done)
        | (rw [if_neg (by omega), if_pos (by first | assumption | omega)]; done)
        | (rw [if_neg (by omega), if_neg (by first | assumption | omega)]; done)
    · refine v_iconst k_Canon_soundOf_33 ?_
      refine v_aload_n k_Canon_soundOf_34 rfl ?_
      refine v_getf fl_Canon_12 c0 rfl k_Canon_soundOf_35 ?_
      refine v_iconst k_Canon_soundOf_38 ?_
      refine v_callVr mo_Tune_pitchOf mi_Tune_pitchOf mv_Tune_pitchOf lk_Canon_108 k_Canon_soundOf_39 c1.1 rfl rfl (Nat.le_of_ble_eq_true rfl) rfl (Nat.le_of_ble_eq_true rfl) (c_Tune_pitchOf G c1 (by omega)) ?_
      refine v_imul k_Canon_soundOf_42 ?_
      refine v_iload k_Canon_soundOf_43 rfl ?_
      refine v_isub k_Canon_soundOf_45 ?_
      refine v_goto k_Canon_soundOf_46 (tgt := 51) rfl ?_
      refine v_istore k_Canon_soundOf_51 ⟨Nat.le_of_ble_eq_true rfl, Nat.le_of_ble_eq_true rfl⟩ ?_
      refine v_iload k_Canon_soundOf_53 rfl ?_
      refine v_aload_n k_Canon_soundOf_55 rfl ?_
      refine v_iload_n k_Canon_soundOf_56 rfl ?_
      refine v_iload_n k_Canon_soundOf_57 rfl ?_
      refine v_callVr mo_Canon_lift mi_Canon_lift mv_Canon_lift lk_Canon_114 k_Canon_soundOf_58 c0 rfl rfl (Nat.le_of_ble_eq_true rfl) rfl (Nat.le_of_ble_eq_true rfl) (c_Canon_lift G hp w (by omega) (by omega)) ?_
      refine v_iadd k_Canon_soundOf_61 ?_
      refine v_ireturn k_Canon_soundOf_62 rfl rfl ?_
      refine ⟨?_, rfl⟩
      rw [sO]
      first
        | (rw [if_pos (by omega)]; done)
        | (rw [if_neg (by omega), if_pos (by first | assumption | omega)]; done)
        | (rw [if_neg (by omega), if_neg (by first | assumption | omega)]; done)
  · refine v_sipush k_Canon_soundOf_11 (by decide) ?_
    refine v_ireturn k_Canon_soundOf_14 rfl rfl ?_
    refine ⟨?_, rfl⟩
    rw [sO]
    first
      | (rw [if_pos (by omega)]; done)
      | (rw [if_neg (by omega), if_pos (by first | assumption | omega)]; done)
      | (rw [if_neg (by omega), if_neg (by first | assumption | omega)]; done)
end
section
/-! what sounds well; who sounds at a beat -/
def wl (W d : Int) : Bool := decide ((W / ((2 ^ ((if 0 ≤ d then d else -d) % 7).toNat : Nat) : Int)) % ((2 ^ 1 : Nat) : Int) = 1)
theorem wl_1 {W d : Int} (h : W / ((2 ^ ((if 0 ≤ d then d else -d) % 7).toNat : Nat) : Int) % ((2 ^ 1 : Nat) : Int) = 1) : wl W d = true := decide_eq_true h
theorem wl_0 {W d : Int} (h : ¬ W / ((2 ^ ((if 0 ≤ d then d else -d) % 7).toNat : Nat) : Int) % ((2 ^ 1 : Nat) : Int) = 1) : ¬ wl W d = true := by simp only [wl, decide_eq_true_eq]; exact h
theorem div_bd {W : Int} (h : 0 ≤ W ∧ W ≤ 127) (n : Nat) : 0 ≤ W / ((2 ^ n : Nat) : Int) ∧ W / ((2 ^ n : Nat) : Int) ≤ 127 := by
  have hp : (0 : Int) < ((2 ^ n : Nat) : Int) := by exact_mod_cast Nat.two_pow_pos n
  exact ⟨Int.ediv_nonneg h.1 (Int.le_of_lt hp), Int.le_trans (Int.ediv_le_self _ h.1) h.2⟩
/-- the voices that sound at a beat, in their order, with what they sound -/
def soF (K : CK) (b : Int) : Nat → List (Int × Int)
  | 0 => []
  | n + 1 => if sO K n b = 999 then soF K b n else soF K b n ++ [((n : Int), sO K n b)]
def so (K : CK) (b : Int) : List (Int × Int) := soF K b (kK K).length
theorem soF_len (K : CK) (b : Int) : ∀ n, (soF K b n).length ≤ n
  | 0 => by simp [soF]
  | n + 1 => by
    have := soF_len K b n
    simp only [soF]
    split
    · omega
    · rw [List.length_append, List.length_singleton]; omega
theorem soF_bd {K : CK} (w : wK K) (b : Int) : ∀ n, ∀ q ∈ soF K b n, (0 ≤ q.1 ∧ q.1 < n) ∧ -9 ≤ q.2 ∧ q.2 ≤ 37 ∧ q.2 = sO K q.1 b
  | 0 => by simp [soF]
  | n + 1 => by
    intro q hq
    simp only [soF] at hq
    split at hq
    · have := soF_bd w b n q hq; omega
    · rename_i hn
      rcases List.mem_append.mp hq with h | h
      · have := soF_bd w b n q h; omega
      · rw [List.mem_singleton] at h
        subst h
        have h2 := sO_bd w (n : Int) b
        have h3 : -9 ≤ sO K (n : Int) b ∧ sO K (n : Int) b ≤ 37 := by
          rcases h2 with h2 | h2
          · exact absurd h2 hn
          · exact h2
        exact ⟨⟨by show (0 : Int) ≤ (n : Int); omega, by show (n : Int) < ((n + 1 : Nat) : Int); omega⟩, h3.1, h3.2, rfl⟩
theorem rgM {α : Type} (f : α → Int) {L : List α} {i : Nat} (hi : i < L.length) : rget (L.map f) i = f (L[i]) := by
  rw [rget, if_pos (by rw [List.length_map]; omega), Int.toNat_natCast, List.getD_eq_getElem?_getD, List.getElem?_map, List.getElem?_eq_getElem hi]
  rfl
theorem drop_at {α : Type} {L : List α} {i : Nat} (hi : i < L.length) : L.drop i = L[i] :: L.drop (i + 1) := List.drop_eq_getElem_cons hi
/-- pairs that are ill -/
def cntI (W a : Int) : List (Int × Int) → Int
  | [] => 0
  | q :: t => (if wl W (a - q.2) then 0 else 1) + cntI W a t
def prsI (W : Int) : List (Int × Int) → Int
  | [] => 0
  | q :: t => cntI W q.2 t + prsI W t
theorem cntI_bd (W a : Int) : ∀ L : List (Int × Int), 0 ≤ cntI W a L ∧ cntI W a L ≤ L.length
  | [] => by simp [cntI]
  | q :: t => by
    have := cntI_bd W a t
    simp only [cntI, List.length_cons]
    split <;> omega
theorem prsI_bd (W : Int) : ∀ (L : List (Int × Int)) (n : Nat), L.length ≤ n → 0 ≤ prsI W L ∧ prsI W L ≤ n * n
  | [], n, h => by simp only [prsI]; exact ⟨by decide, by exact_mod_cast Nat.zero_le _⟩
  | q :: t, n, h => by
    cases n with
    | zero => simp at h
    | succ n =>
      have h1 := prsI_bd W t n (by simpa using h)
      have h2 := cntI_bd W q.2 t
      have h3 : t.length ≤ n := by simpa using h
      simp only [prsI]
      have e : ((n + 1 : Nat) : Int) * ((n + 1 : Nat) : Int) = (n : Int) * n + 2 * n + 1 := by
        rw [Int.natCast_add, Int.add_mul, Int.mul_add]; simp; omega
      omega
def ill (K : CK) (b : Int) : Int := prsI (kW K) (so K b)
theorem ill_bd {K : CK} (w : wK K) (b : Int) : 0 ≤ ill K b ∧ ill K b ≤ 49 := by
  have h1 := soF_len K b (kK K).length
  have h2 := w.nv
  have := prsI_bd (kW K) (so K b) 7 (by unfold so; omega)
  unfold ill
  omega
def illS (K : CK) : Nat → Int
  | 0 => 0
  | n + 1 => illS K n + ill K n
/-- the first beat with something ill, of k beats from b on -/
def fIB (K : CK) : Nat → Nat → Int
  | 0, _ => -9
  | k + 1, b => if 0 < ill K b then (b : Int) else fIB K k (b + 1)
/-- the first pair that is ill -/
def fpI (W a va : Int) : List (Int × Int) → Int
  | [] => -9
  | q :: t => if wl W (a - q.2) then fpI W a va t else 10 * va + q.1
def fpP (W : Int) : List (Int × Int) → Int
  | [] => -9
  | q :: t => if fpI W q.2 q.1 t = -9 then fpP W t else fpI W q.2 q.1 t
section VBN
variable {G : Gx} {Y : Yx} {d rc rs pc : Nat} {ls : List (Option AV)} {st : List AV} {h : AH} {F : Option AV → AH → Prop}
/-- one bit, and and or of naturals -/
theorem v_bit {y : Int} (hd : decode Y.2.1 pc = .ok (.ishl, 1)) (hy : 0 ≤ y ∧ y ≤ 31) (k : V G Y d rc rs (pc + 1) ls (aI ((2 ^ y.toNat : Nat) : Int) :: st) h F) : V G Y d rc rs pc ls (aI y :: aI 1 :: st) h F :=
  v_ishl hd hy (by rw [Int.one_mul]; exact k)
theorem v_iorN {x y : Nat} (hd : decode Y.2.1 pc = .ok (.ior, 1)) (k : V G Y d rc rs (pc + 1) ls (aI ((x ||| y : Nat) : Int) :: st) h F) : V G Y d rc rs pc ls (aI (y : Int) :: aI (x : Int) :: st) h F :=
  v_ior hd (Int.natCast_nonneg _) (Int.natCast_nonneg _) (by rw [Int.toNat_natCast, Int.toNat_natCast]; exact k)
theorem v_iandN {x y : Nat} (hd : decode Y.2.1 pc = .ok (.iand, 1)) (k : V G Y d rc rs (pc + 1) ls (aI ((x &&& y : Nat) : Int) :: st) h F) : V G Y d rc rs pc ls (aI (y : Int) :: aI (x : Int) :: st) h F :=
  v_iand hd (Int.natCast_nonneg _) (Int.natCast_nonneg _) (by rw [Int.toNat_natCast, Int.toNat_natCast]; exact k)
end VBN
set_option maxHeartbeats 4000000 in
set_option maxRecDepth 20000 in
theorem c_soundsWell (G : Gx) {h : AH} {W d : Int} (hW : 0 ≤ W ∧ W ≤ 127) (hd : -5000 ≤ d ∧ d ≤ 5000) : Ct G Y_Main_soundsWell 1 0 0 [aI W, aI d] h (isR (some (aI (if wl W d then 1 else 0))) h) := by
  have e1 : 0 ≤ (if 0 ≤ d then d else -d) ∧ (if 0 ≤ d then d else -d) ≤ 5000 := by split <;> omega
  refine Ct.of_V mo_Main_soundsWell rfl (Nat.le_of_ble_eq_true rfl) rfl ?_
  refine v_iload_n k_Main_soundsWell_0 rfl ?_
  refine v_iload_n k_Main_soundsWell_1 rfl ?_
  refine v_mabs k_Main_soundsWell_2 lm_Main_233 (by omega) (Nat.le_of_ble_eq_true rfl) (Nat.le_of_ble_eq_true rfl) ?_
  refine v_bipush k_Main_soundsWell_5 (by decide) ?_
  refine v_irem k_Main_soundsWell_7 (by omega) (by decide) ?_
  rw [Int.tmod_eq_emod_of_nonneg e1.1]
  have e2 := Int.emod_nonneg (if 0 ≤ d then d else -d) (show (7 : Int) ≠ 0 by decide)
  have e3 := Int.emod_lt_of_pos (if 0 ≤ d then d else -d) (show (0 : Int) < 7 by decide)
  have e4 := div_bd hW ((if 0 ≤ d then d else -d) % 7).toNat
  refine v_ishr k_Main_soundsWell_8 (by omega) (by omega) ?_
  refine v_iconst k_Main_soundsWell_9 ?_
  refine v_mask 1 k_Main_soundsWell_10 (by decide) rfl ?_
  have e5 := Int.emod_nonneg (W / ((2 ^ ((if 0 ≤ d then d else -d) % 7).toNat : Nat) : Int)) (show ((2 ^ 1 : Nat) : Int) ≠ 0 by decide)
  have e6 := Int.emod_lt_of_pos (W / ((2 ^ ((if 0 ≤ d then d else -d) % 7).toNat : Nat) : Int)) (show (0 : Int) < ((2 ^ 1 : Nat) : Int) by decide)
  have e7 : ((2 ^ 1 : Nat) : Int) = 2 := rfl
  refine v_iconst k_Main_soundsWell_11 ?_
  refine v_icne 19 k_Main_soundsWell_12 rfl (by omega) (by omega) (fun c12 => ?_) (fun c12 => ?_)
  · refine v_iconst k_Main_soundsWell_19 ?_
    refine v_ireturn k_Main_soundsWell_20 rfl (by first | rfl | (split <;> rfl)) ?_
    first
      | exact ⟨by rw [if_pos (wl_1 (Classical.not_not.mp c12))], rfl⟩
      | exact ⟨by rw [if_neg (wl_0 c12)], rfl⟩
  · refine v_iconst k_Main_soundsWell_15 ?_
    refine v_goto k_Main_soundsWell_16 (tgt := 20) rfl ?_
    refine v_ireturn k_Main_soundsWell_20 rfl (by first | rfl | (split <;> rfl)) ?_
    first
      | exact ⟨by rw [if_pos (wl_1 (Classical.not_not.mp c12))], rfl⟩
      | exact ⟨by rw [if_neg (wl_0 c12)], rfl⟩

set_option maxHeartbeats 4000000 in
set_option maxRecDepth 20000 in
theorem c_Canon_clash (G : Gx) {h : AH} {c : Nat} {K : CK} {sg sd : List Int} (hp : pCanon h c K sg sd) (w : wK K) (hs : ∀ x ∈ sd, -9 ≤ x ∧ x ≤ 37) {i j : Int} (hi : InR i) (hj : InR j) : Ct G Y_Canon_clash 2 0 0 [aR c, aI i, aI j] h (isR (some (aI (if wl (kW K) (rget sd i - rget sd j) then 0 else 1))) h) := by
  obtain ⟨c0, c1, c2, c3, c4, c5, c6⟩ := id hp
  have hbt : (nob (kL K)).length = bt K := rfl
  have b1 := rget_bd hs (by decide) (by decide) i
  have b2 := rget_bd hs (by decide) (by decide) j
  refine Ct.of_V mo_Canon_clash rfl (Nat.le_of_ble_eq_true rfl) rfl ?_
  refine v_aload_n k_Canon_clash_0 rfl ?_
  refine v_getf fl_Canon_46 c0 rfl k_Canon_clash_1 ?_
  refine v_aload_n k_Canon_clash_4 rfl ?_
  refine v_getf fl_Canon_36 c0 rfl k_Canon_clash_5 ?_
  refine v_iload_n k_Canon_clash_8 rfl ?_
  refine v_callVr mo_Row_get mi_Row_get mv_Row_get lk_Canon_64 k_Canon_clash_9 c6.obj rfl rfl (Nat.le_of_ble_eq_true rfl) rfl (Nat.le_of_ble_eq_true rfl) (c_Row_get G c6 (by omega)) ?_
  refine v_aload_n k_Canon_clash_12 rfl ?_
  refine v_getf fl_Canon_36 c0 rfl k_Canon_clash_13 ?_
  refine v_iload_n k_Canon_clash_16 rfl ?_
  refine v_callVr mo_Row_get mi_Row_get mv_Row_get lk_Canon_64 k_Canon_clash_17 c6.obj rfl rfl (Nat.le_of_ble_eq_true rfl) rfl (Nat.le_of_ble_eq_true rfl) (c_Row_get G c6 (by omega)) ?_
  refine v_isub k_Canon_clash_20 ?_
  refine v_callSr mo_Main_soundsWell ms_Main_soundsWell lk_Canon_123 k_Canon_clash_21 rfl (Nat.le_of_ble_eq_true rfl) rfl (Nat.le_of_ble_eq_true rfl) (c_soundsWell G w.lw (by omega)) ?_
  refine v_ifne 31 k_Canon_clash_24 rfl (by split <;> decide) (fun c24 => ?_) (fun c24 => ?_)
  · refine v_iconst k_Canon_clash_31 ?_
    refine v_ireturn k_Canon_clash_32 rfl (by first | rfl | (split <;> rfl)) ?_
    refine ⟨?_, rfl⟩
    by_cases hq : wl (kW K) (rget sd i - rget sd j) = true
    · first | (rw [if_pos hq]; done) | (rw [if_pos hq] at c24; exact absurd rfl c24) | (rw [if_pos hq] at c24; exact absurd c24 (by decide))
    · first | (rw [if_neg hq]; done) | (rw [if_neg hq] at c24; exact absurd rfl c24) | (rw [if_neg hq] at c24; exact absurd c24 (by decide))
  · refine v_iconst k_Canon_clash_27 ?_
    refine v_goto k_Canon_clash_28 (tgt := 32) rfl ?_
    refine v_ireturn k_Canon_clash_32 rfl (by first | rfl | (split <;> rfl)) ?_
    refine ⟨?_, rfl⟩
    by_cases hq : wl (kW K) (rget sd i - rget sd j) = true
    · first | (rw [if_pos hq]; done) | (rw [if_pos hq] at c24; exact absurd rfl c24) | (rw [if_pos hq] at c24; exact absurd c24 (by decide))
    · first | (rw [if_neg hq]; done) | (rw [if_neg hq] at c24; exact absurd rfl c24) | (rw [if_neg hq] at c24; exact absurd c24 (by decide))

set_option maxHeartbeats 4000000 in
set_option maxRecDepth 20000 in
theorem c_Canon_listen (G : Gx) {h : AH} {c : Nat} {K : CK} {sg sd : List Int} (hp : pCanon h c K sg sd) (w : wK K) {b : Int} (hb : 0 ≤ b ∧ b ≤ 450) : Ct G Y_Canon_listen 4 0 0 [aR c, aI b] h (fun v h' => v = none ∧ pCanon h' c K ((so K b).map Prod.fst) ((so K b).map Prod.snd) ∧ Fr (c + 14) (c + 18) h h') := by
  obtain ⟨c0, c1, c2, c3, c4, c5, c6⟩ := id hp
  have hbt : (nob (kL K)).length = bt K := rfl
  have b1 := w.nv
  refine Ct.of_V mo_Canon_listen rfl (Nat.le_of_ble_eq_true rfl) rfl ?_
  have loop : ∀ (k : Nat) {x : Option AV} (i : Nat) (h1 : AH), ((kK K).length < i + k) → (i ≤ (kK K).length) → (pCanon h1 c K ((soF K b i).map Prod.fst) ((soF K b i).map Prod.snd)) → (Fr (c + 14) (c + 18) h h1) → V G Y_Canon_listen 4 0 0 16 [some (aR c), some (aI b), some (aI i), x] [] h1 (fun v h' => v = none ∧ pCanon h' c K ((so K b).map Prod.fst) ((so K b).map Prod.snd) ∧ Fr (c + 14) (c + 18) h h') := by
    intro k
    induction k with
    | zero => intro x i h1 hk hi hp1 f1; exfalso; omega
    | succ k ih =>
      intro x i h1 hk hi hp1 f1
      obtain ⟨c0, c1, c2, c3, c4, c5, c6⟩ := id hp1
      have hbt : (nob (kL K)).length = bt K := rfl
      have l1 := soF_len K b i
      have b2 := sO_bd w (i : Int) b
      refine v_iload_n k_Canon_listen_16 rfl ?_
      refine v_aload_n k_Canon_listen_17 rfl ?_
      refine v_callVr mo_Canon_voices mi_Canon_voices mv_Canon_voices lk_Canon_80 k_Canon_listen_18 c0 rfl rfl (Nat.le_of_ble_eq_true rfl) rfl (Nat.le_of_ble_eq_true rfl) (c_Canon_voices G hp1) ?_
      refine v_icge 60 k_Canon_listen_21 rfl (by omega) (by omega) (fun c21 => ?_) (fun c21 => ?_)
      · refine v_return k_Canon_listen_60 rfl ?_
        have e : i = (kK K).length := by omega
        subst e
        exact ⟨rfl, hp1, f1⟩
      · refine v_aload_n k_Canon_listen_24 rfl ?_
        refine v_iload_n k_Canon_listen_25 rfl ?_
        refine v_iload_n k_Canon_listen_26 rfl ?_
        refine v_callVr mo_Canon_soundOf mi_Canon_soundOf mv_Canon_soundOf lk_Canon_120 k_Canon_listen_27 c0 rfl rfl (Nat.le_of_ble_eq_true rfl) rfl (Nat.le_of_ble_eq_true rfl) (c_Canon_soundOf G hp1 w (by omega) (by omega)) ?_
        refine v_istore_n k_Canon_listen_30 ⟨Nat.le_of_ble_eq_true rfl, Nat.le_of_ble_eq_true rfl⟩ ?_
        refine v_iload_n k_Canon_listen_31 rfl ?_
        refine v_sipush k_Canon_listen_32 (by decide) ?_
        refine v_iceq 54 k_Canon_listen_35 rfl (by omega) (by omega) (fun c35 => ?_) (fun c35 => ?_)
        · refine v_iinc k_Canon_listen_54 rfl (Nat.le_of_ble_eq_true rfl) ?_
          refine v_goto k_Canon_listen_57 (tgt := 16) rfl ?_
          first
            | (rw [radd, if_pos (by rw [List.length_map]; omega)] at n5 n6; exact ih (i + 1) h51 (by omega) (by omega) ⟨c0, c1, c2, c3, c4, by rw [soF, if_neg c35, List.map_append]; exact n5, by rw [soF, if_neg c35, List.map_append]; exact n6⟩ f1)
            | exact ih (i + 1) h1 (by omega) (by omega) (by rw [soF, if_pos c35]; exact hp1) f1
        · refine v_aload_n k_Canon_listen_38 rfl ?_
          refine v_getf fl_Canon_33 c0 rfl k_Canon_listen_39 ?_
          refine v_iload_n k_Canon_listen_42 rfl ?_
          refine v_callV mo_Row_add mi_Row_add mv_Row_add lk_Canon_72 k_Canon_listen_43 c5.obj rfl rfl (Nat.le_of_ble_eq_true rfl) rfl (Nat.le_of_ble_eq_true rfl) (c_Row_add G c5) (fun v43 h43 q43 => ?_)
          obtain ⟨rfl, n5, f5⟩ := q43
          have c0 := f5.at c0 (by omega)
          have c1 := c1.fr f5 (by omega)
          have c2 := c2.fr f5 (by omega)
          have c3 := c3.fr f5 (by omega)
          have c4 := c4.fr f5 (by omega)
          have c6 := c6.fr f5 (by omega)
          refine v_aload_n k_Canon_listen_46 rfl ?_
          refine v_getf fl_Canon_36 c0 rfl k_Canon_listen_47 ?_
          refine v_iload_n k_Canon_listen_50 rfl ?_
          refine v_callV mo_Row_add mi_Row_add mv_Row_add lk_Canon_72 k_Canon_listen_51 c6.obj rfl rfl (Nat.le_of_ble_eq_true rfl) rfl (Nat.le_of_ble_eq_true rfl) (c_Row_add G c6) (fun v51 h51 q51 => ?_)
          obtain ⟨rfl, n6, f6⟩ := q51
          have c0 := f6.at c0 (by omega)
          have c1 := c1.fr f6 (by omega)
          have c2 := c2.fr f6 (by omega)
          have c3 := c3.fr f6 (by omega)
          have c4 := c4.fr f6 (by omega)
          have n5 := n5.fr f6 (by omega)
          have f1 := (f1.tr f5 (by omega) (by omega)).tr f6 (by omega) (by omega)
          refine v_iinc k_Canon_listen_54 rfl (Nat.le_of_ble_eq_true rfl) ?_
          refine v_goto k_Canon_listen_57 (tgt := 16) rfl ?_
          first
            | (rw [radd, if_pos (by rw [List.length_map]; omega)] at n5 n6; exact ih (i + 1) h51 (by omega) (by omega) ⟨c0, c1, c2, c3, c4, by rw [soF, if_neg c35, List.map_append]; exact n5, by rw [soF, if_neg c35, List.map_append]; exact n6⟩ f1)
            | exact ih (i + 1) h1 (by omega) (by omega) (by rw [soF, if_pos c35]; exact hp1) f1
  refine v_aload_n k_Canon_listen_0 rfl ?_
  refine v_getf fl_Canon_33 c0 rfl k_Canon_listen_1 ?_
  refine v_callV mo_Row_clear mi_Row_clear mv_Row_clear lk_Canon_117 k_Canon_listen_4 c5.obj rfl rfl (Nat.le_of_ble_eq_true rfl) rfl (Nat.le_of_ble_eq_true rfl) (c_Row_clear G c5) (fun v4 h4 q4 => ?_)
  obtain ⟨rfl, n5, f5⟩ := q4
  have c0 := f5.at c0 (by omega)
  have c1 := c1.fr f5 (by omega)
  have c2 := c2.fr f5 (by omega)
  have c3 := c3.fr f5 (by omega)
  have c4 := c4.fr f5 (by omega)
  have c6 := c6.fr f5 (by omega)
  refine v_aload_n k_Canon_listen_7 rfl ?_
  refine v_getf fl_Canon_36 c0 rfl k_Canon_listen_8 ?_
  refine v_callV mo_Row_clear mi_Row_clear mv_Row_clear lk_Canon_117 k_Canon_listen_11 c6.obj rfl rfl (Nat.le_of_ble_eq_true rfl) rfl (Nat.le_of_ble_eq_true rfl) (c_Row_clear G c6) (fun v11 h11 q11 => ?_)
  obtain ⟨rfl, n6, f6⟩ := q11
  have c0 := f6.at c0 (by omega)
  have c1 := c1.fr f6 (by omega)
  have c2 := c2.fr f6 (by omega)
  have c3 := c3.fr f6 (by omega)
  have c4 := c4.fr f6 (by omega)
  have n5 := n5.fr f6 (by omega)
  refine v_iconst k_Canon_listen_14 ?_
  refine v_istore_n k_Canon_listen_15 ⟨Nat.le_of_ble_eq_true rfl, Nat.le_of_ble_eq_true rfl⟩ ?_
  exact loop 8 0 h11 (by omega) (by omega) ⟨c0, c1, c2, c3, c4, n5, n6⟩ ((f5.wd (by omega) (by omega)).tr f6 (by omega) (by omega))

theorem so_len {K : CK} (w : wK K) (b : Int) : (so K b).length ≤ 7 := by
  have := soF_len K b (kK K).length
  have := w.nv
  unfold so
  omega
theorem so_sd {K : CK} (w : wK K) (b : Int) : ∀ x ∈ (so K b).map Prod.snd, -9 ≤ x ∧ x ≤ 37 := by
  intro x hx
  obtain ⟨q, hq, rfl⟩ := List.mem_map.mp hx
  have := soF_bd w b _ q hq
  omega
theorem so_sg {K : CK} (w : wK K) (b : Int) : ∀ x ∈ (so K b).map Prod.fst, 0 ≤ x ∧ x ≤ 6 := by
  intro x hx
  obtain ⟨q, hq, rfl⟩ := List.mem_map.mp hx
  have := soF_bd w b _ q hq
  have := w.nv
  omega
set_option maxHeartbeats 4000000 in
set_option maxRecDepth 20000 in
theorem c_Canon_illsAt (G : Gx) {h : AH} {c : Nat} {K : CK} {sg sd : List Int} (hp : pCanon h c K sg sd) (w : wK K) {b : Int} (hb : 0 ≤ b ∧ b ≤ 450) : Ct G Y_Canon_illsAt 5 0 0 [aR c, aI b] h (fun v h' => v = some (aI (ill K b)) ∧ ∃ sg sd, pCanon h' c K sg sd ∧ Fr (c + 14) (c + 18) h h') := by
  obtain ⟨c0, c1, c2, c3, c4, c5, c6⟩ := id hp
  have hbt : (nob (kL K)).length = bt K := rfl
  have b1 := so_len w b
  refine Ct.of_V mo_Canon_illsAt rfl (Nat.le_of_ble_eq_true rfl) rfl ?_
  refine v_aload_n k_Canon_illsAt_0 rfl ?_
  refine v_iload_n k_Canon_illsAt_1 rfl ?_
  refine v_callV mo_Canon_listen mi_Canon_listen mv_Canon_listen lk_Canon_127 k_Canon_illsAt_2 c0 rfl rfl (Nat.le_of_ble_eq_true rfl) rfl (Nat.le_of_ble_eq_true rfl) (c_Canon_listen G hp w (by omega)) (fun v2 h2 q2 => ?_)
  obtain ⟨rfl, hp1, f1⟩ := q2
  obtain ⟨c0, c1, c2, c3, c4, c5, c6⟩ := id hp1
  have el1 : ((so K b).map Prod.fst).length = (so K b).length := List.length_map _
  have el2 : ((so K b).map Prod.snd).length = (so K b).length := List.length_map _
  refine v_iconst k_Canon_illsAt_5 ?_
  refine v_istore_n k_Canon_illsAt_6 ⟨Nat.le_of_ble_eq_true rfl, Nat.le_of_ble_eq_true rfl⟩ ?_
  refine v_iconst k_Canon_illsAt_7 ?_
  refine v_istore_n k_Canon_illsAt_8 ⟨Nat.le_of_ble_eq_true rfl, Nat.le_of_ble_eq_true rfl⟩ ?_
  have loop : ∀ (k : Nat) (i : Nat) (acc : Int) (x : Option AV), ((so K b).length < i + k) → (i ≤ (so K b).length) → (acc + prsI (kW K) ((so K b).drop i) = ill K b) → V G Y_Canon_illsAt 5 0 0 9 [some (aR c), some (aI b), some (aI acc), some (aI i), x] [] h2 (fun v h' => v = some (aI (ill K b)) ∧ ∃ sg sd, pCanon h' c K sg sd ∧ Fr (c + 14) (c + 18) h h') := by
    intro k
    induction k with
    | zero => intro i acc x hk hi ht; exfalso; omega
    | succ k ih =>
      intro i acc x hk hi ht
      refine v_iload_n k_Canon_illsAt_9 rfl ?_
      refine v_aload_n k_Canon_illsAt_10 rfl ?_
      refine v_getf fl_Canon_33 c0 rfl k_Canon_illsAt_11 ?_
      refine v_callVr mo_Row_size mi_Row_size mv_Row_size lk_Canon_56 k_Canon_illsAt_14 c5.obj rfl rfl (Nat.le_of_ble_eq_true rfl) rfl (Nat.le_of_ble_eq_true rfl) (c_Row_size G c5) ?_
      refine v_icge 62 k_Canon_illsAt_17 rfl (by omega) (by omega) (fun c17 => ?_) (fun c17 => ?_)
      · refine v_iload_n k_Canon_illsAt_62 rfl ?_
        refine v_ireturn k_Canon_illsAt_63 rfl rfl ?_
        have ei : i = (so K b).length := by omega
        rw [ei, List.drop_length] at ht
        simp only [prsI] at ht
        exact ⟨by rw [← ht, Int.add_zero], _, _, hp1, f1⟩
      · refine v_iload_n k_Canon_illsAt_20 rfl ?_
        refine v_iconst k_Canon_illsAt_21 ?_
        refine v_iadd k_Canon_illsAt_22 ?_
        refine v_istore k_Canon_illsAt_23 ⟨Nat.le_of_ble_eq_true rfl, Nat.le_of_ble_eq_true rfl⟩ ?_
        have loop2 : ∀ (k2 : Nat) (j : Nat) (acc2 : Int), ((so K b).length < j + k2) → (j ≤ (so K b).length) → (acc2 + (cntI (kW K) (rget ((so K b).map Prod.snd) i) ((so K b).drop j) + prsI (kW K) ((so K b).drop (i + 1))) = ill K b) → V G Y_Canon_illsAt 5 0 0 25 [some (aR c), some (aI b), some (aI acc2), some (aI i), some (aI j)] [] h2 (fun v h' => v = some (aI (ill K b)) ∧ ∃ sg sd, pCanon h' c K sg sd ∧ Fr (c + 14) (c + 18) h h') := by
          intro k2
          induction k2 with
          | zero => intro j acc2 hk2 hj ht; exfalso; omega
          | succ k2 ih2 =>
            intro j acc2 hk2 hj ht
            refine v_iload k_Canon_illsAt_25 rfl ?_
            refine v_aload_n k_Canon_illsAt_27 rfl ?_
            refine v_getf fl_Canon_33 c0 rfl k_Canon_illsAt_28 ?_
            refine v_callVr mo_Row_size mi_Row_size mv_Row_size lk_Canon_56 k_Canon_illsAt_31 c5.obj rfl rfl (Nat.le_of_ble_eq_true rfl) rfl (Nat.le_of_ble_eq_true rfl) (c_Row_size G c5) ?_
            refine v_icge 56 k_Canon_illsAt_34 rfl (by omega) (by omega) (fun c34 => ?_) (fun c34 => ?_)
            · have ej : j = (so K b).length := by omega
              refine v_iinc k_Canon_illsAt_56 rfl (Nat.le_of_ble_eq_true rfl) ?_
              refine v_goto k_Canon_illsAt_59 (tgt := 9) rfl ?_
              refine ih (i + 1) acc2 _ (by omega) (by omega) ?_
              rw [ej, List.drop_length] at ht
              simp only [cntI] at ht
              omega
            · refine v_aload_n k_Canon_illsAt_37 rfl ?_
              refine v_iload_n k_Canon_illsAt_38 rfl ?_
              refine v_iload k_Canon_illsAt_39 rfl ?_
              refine v_callVr mo_Canon_clash mi_Canon_clash mv_Canon_clash lk_Canon_130 k_Canon_illsAt_41 c0 rfl rfl (Nat.le_of_ble_eq_true rfl) rfl (Nat.le_of_ble_eq_true rfl) (c_Canon_clash G hp1 w (so_sd w b) (by omega) (by omega)) ?_
              refine v_ifeq 50 k_Canon_illsAt_44 rfl (by split <;> decide) (fun c44 => ?_) (fun c44 => ?_)
              · refine v_iinc k_Canon_illsAt_50 rfl (Nat.le_of_ble_eq_true rfl) ?_
                refine v_goto k_Canon_illsAt_53 (tgt := 25) rfl ?_
                refine ih2 (j + 1) _ (by omega) (by omega) ?_
                rw [drop_at (show j < (so K b).length by omega)] at ht
                rw [← ht]
                simp only [cntI]
                have e1 := rgM Prod.snd (L := so K b) (i := i) (by omega)
                have e2 := rgM Prod.snd (L := so K b) (i := j) (by omega)
                rw [e1, e2] at c44
                rw [e1]
                by_cases hq : wl (kW K) (((so K b)[i]).2 - ((so K b)[j]).2) = true
                · rw [if_pos hq] at c44 ⊢; first | omega | (exfalso; revert c44; decide)
                · rw [if_neg hq] at c44 ⊢; first | omega | (exfalso; revert c44; decide)
              · refine v_iinc k_Canon_illsAt_47 rfl (Nat.le_of_ble_eq_true rfl) ?_
                refine v_iinc k_Canon_illsAt_50 rfl (Nat.le_of_ble_eq_true rfl) ?_
                refine v_goto k_Canon_illsAt_53 (tgt := 25) rfl ?_
                refine ih2 (j + 1) _ (by omega) (by omega) ?_
                rw [drop_at (show j < (so K b).length by omega)] at ht
                rw [← ht]
                simp only [cntI]
                have e1 := rgM Prod.snd (L := so K b) (i := i) (by omega)
                have e2 := rgM Prod.snd (L := so K b) (i := j) (by omega)
                rw [e1, e2] at c44
                rw [e1]
                by_cases hq : wl (kW K) (((so K b)[i]).2 - ((so K b)[j]).2) = true
                · rw [if_pos hq] at c44 ⊢; first | omega | (exfalso; revert c44; decide)
                · rw [if_neg hq] at c44 ⊢; first | omega | (exfalso; revert c44; decide)
        have ex1 := drop_at (show i < (so K b).length by omega)
        have e1 := rgM Prod.snd (L := so K b) (i := i) (by omega)
        refine loop2 8 (i + 1) acc (by have := so_len w b; omega) (by omega) ?_
        rw [ex1] at ht
        simp only [prsI] at ht
        rw [e1]
        exact ht
  exact loop 8 0 0 _ (by omega) (by omega) (by rw [List.drop_zero, Int.zero_add]; rfl)
end
section
theorem fpI_wl {W a va : Int} {q : Int × Int} {t : List (Int × Int)} (h : wl W (a - q.2) = true) : fpI W a va (q :: t) = fpI W a va t := by simp only [fpI]; rw [if_pos h]
theorem fpI_no {W a va : Int} {q : Int × Int} {t : List (Int × Int)} (h : ¬ wl W (a - q.2) = true) : fpI W a va (q :: t) = 10 * va + q.1 := by simp only [fpI]; rw [if_neg h]
set_option maxHeartbeats 4000000 in
set_option maxRecDepth 20000 in
theorem c_Canon_illsInAll (G : Gx) {h : AH} {c : Nat} {K : CK} {sg sd : List Int} (hp : pCanon h c K sg sd) (w : wK K) : Ct G Y_Canon_illsInAll 6 0 0 [aR c] h (fun v h' => v = some (aI (illS K (q_endK K).toNat)) ∧ ∃ sg sd, pCanon h' c K sg sd ∧ Fr (c + 14) (c + 18) h h') := by
  obtain ⟨c0, c1, c2, c3, c4, c5, c6⟩ := id hp
  have hbt : (nob (kL K)).length = bt K := rfl
  have b1 := w.endK
  refine Ct.of_V mo_Canon_illsInAll rfl (Nat.le_of_ble_eq_true rfl) rfl ?_
  have loop : ∀ (k : Nat) (i : Nat) (h1 : AH), ((q_endK K).toNat < i + k) → ((i : Int) ≤ q_endK K) → ∀ sg sd, pCanon h1 c K sg sd → Fr (c + 14) (c + 18) h h1 → V G Y_Canon_illsInAll 6 0 0 9 [some (aR c), some (aI (illS K i)), some (aI (q_endK K)), some (aI i)] [] h1 (fun v h' => v = some (aI (illS K (q_endK K).toNat)) ∧ ∃ sg sd, pCanon h' c K sg sd ∧ Fr (c + 14) (c + 18) h h') := by
    intro k
    induction k with
    | zero => intro i h1 hk hi; exfalso; omega
    | succ k ih =>
      intro i h1 hk hi sg1 sd1 hp1 f1
      obtain ⟨c0, c1, c2, c3, c4, c5, c6⟩ := id hp1
      have hbt : (nob (kL K)).length = bt K := rfl
      refine v_iload_n k_Canon_illsInAll_9 rfl ?_
      refine v_iload_n k_Canon_illsInAll_10 rfl ?_
      refine v_icge 28 k_Canon_illsInAll_11 rfl (by omega) (by omega) (fun c11 => ?_) (fun c11 => ?_)
      · refine v_iload_n k_Canon_illsInAll_28 rfl ?_
        refine v_ireturn k_Canon_illsInAll_29 rfl rfl ?_
        have e : i = (q_endK K).toNat := by omega
        subst e
        exact ⟨rfl, _, _, hp1, f1⟩
      · refine v_iload_n k_Canon_illsInAll_14 rfl ?_
        refine v_aload_n k_Canon_illsInAll_15 rfl ?_
        refine v_iload_n k_Canon_illsInAll_16 rfl ?_
        refine v_callV mo_Canon_illsAt mi_Canon_illsAt mv_Canon_illsAt lk_Canon_136 k_Canon_illsInAll_17 c0 rfl rfl (Nat.le_of_ble_eq_true rfl) rfl (Nat.le_of_ble_eq_true rfl) (c_Canon_illsAt G hp1 w (by omega)) (fun v17 h17 q17 => ?_)
        obtain ⟨rfl, sg2, sd2, hp2, f2⟩ := q17
        refine v_iadd k_Canon_illsInAll_20 ?_
        refine v_istore_n k_Canon_illsInAll_21 ⟨Nat.le_of_ble_eq_true rfl, Nat.le_of_ble_eq_true rfl⟩ ?_
        refine v_iinc k_Canon_illsInAll_22 rfl (Nat.le_of_ble_eq_true rfl) ?_
        refine v_goto k_Canon_illsInAll_25 (tgt := 9) rfl ?_
        exact ih (i + 1) h17 (by omega) (by omega) sg2 sd2 hp2 (f1.tr f2 (by omega) (by omega))
  refine v_iconst k_Canon_illsInAll_0 ?_
  refine v_istore_n k_Canon_illsInAll_1 ⟨Nat.le_of_ble_eq_true rfl, Nat.le_of_ble_eq_true rfl⟩ ?_
  refine v_aload_n k_Canon_illsInAll_2 rfl ?_
  refine v_callVr mo_Canon_end mi_Canon_end mv_Canon_end lk_Canon_133 k_Canon_illsInAll_3 c0 rfl rfl (Nat.le_of_ble_eq_true rfl) rfl (Nat.le_of_ble_eq_true rfl) (c_Canon_end G hp w) ?_
  refine v_istore_n k_Canon_illsInAll_6 ⟨Nat.le_of_ble_eq_true rfl, Nat.le_of_ble_eq_true rfl⟩ ?_
  refine v_iconst k_Canon_illsInAll_7 ?_
  refine v_istore_n k_Canon_illsInAll_8 ⟨Nat.le_of_ble_eq_true rfl, Nat.le_of_ble_eq_true rfl⟩ ?_
  exact loop ((q_endK K).toNat + 1) 0 h (by omega) (by omega) _ _ hp Fr.rf

set_option maxHeartbeats 4000000 in
set_option maxRecDepth 20000 in
theorem c_Canon_firstIllBeat (G : Gx) {h : AH} {c : Nat} {K : CK} {sg sd : List Int} (hp : pCanon h c K sg sd) (w : wK K) : Ct G Y_Canon_firstIllBeat 6 0 0 [aR c] h (fun v h' => v = some (aI (fIB K (q_endK K).toNat 0)) ∧ ∃ sg sd, pCanon h' c K sg sd ∧ Fr (c + 14) (c + 18) h h') := by
  obtain ⟨c0, c1, c2, c3, c4, c5, c6⟩ := id hp
  have hbt : (nob (kL K)).length = bt K := rfl
  have b1 := w.endK
  refine Ct.of_V mo_Canon_firstIllBeat rfl (Nat.le_of_ble_eq_true rfl) rfl ?_
  have loop : ∀ (k : Nat) (i : Nat) (h1 : AH), ((q_endK K).toNat = i + k) → (fIB K k i = fIB K (q_endK K).toNat 0) → ∀ sg sd, pCanon h1 c K sg sd → Fr (c + 14) (c + 18) h h1 → V G Y_Canon_firstIllBeat 6 0 0 7 [some (aR c), some (aI (q_endK K)), some (aI i)] [] h1 (fun v h' => v = some (aI (fIB K (q_endK K).toNat 0)) ∧ ∃ sg sd, pCanon h' c K sg sd ∧ Fr (c + 14) (c + 18) h h') := by
    intro k
    induction k with
    | zero =>
      intro i h1 hk ht sg1 sd1 hp1 f1
      refine v_iload_n k_Canon_firstIllBeat_7 rfl ?_
      refine v_iload_n k_Canon_firstIllBeat_8 rfl ?_
      refine v_icge 28 k_Canon_firstIllBeat_9 rfl (by omega) (by omega) (fun c9 => ?_) (fun c9 => ?_)
      · refine v_bipush k_Canon_firstIllBeat_28 (by decide) ?_
        refine v_ireturn k_Canon_firstIllBeat_30 rfl rfl ?_
        refine ⟨?_, _, _, hp1, f1⟩
        rw [← ht]
        rfl
      · exfalso; omega
    | succ k ih =>
      intro i h1 hk ht sg1 sd1 hp1 f1
      obtain ⟨c0, c1, c2, c3, c4, c5, c6⟩ := id hp1
      have hbt : (nob (kL K)).length = bt K := rfl
      refine v_iload_n k_Canon_firstIllBeat_7 rfl ?_
      refine v_iload_n k_Canon_firstIllBeat_8 rfl ?_
      refine v_icge 28 k_Canon_firstIllBeat_9 rfl (by omega) (by omega) (fun c9 => ?_) (fun c9 => ?_)
      · exfalso; omega
      · refine v_aload_n k_Canon_firstIllBeat_12 rfl ?_
        refine v_iload_n k_Canon_firstIllBeat_13 rfl ?_
        refine v_callV mo_Canon_illsAt mi_Canon_illsAt mv_Canon_illsAt lk_Canon_136 k_Canon_firstIllBeat_14 c0 rfl rfl (Nat.le_of_ble_eq_true rfl) rfl (Nat.le_of_ble_eq_true rfl) (c_Canon_illsAt G hp1 w (by omega)) (fun v14 h14 q14 => ?_)
        obtain ⟨rfl, sg2, sd2, hp2, f2⟩ := q14
        have b3 := ill_bd w (i : Int)
        refine v_ifle 22 k_Canon_firstIllBeat_17 rfl (by omega) (fun c17 => ?_) (fun c17 => ?_)
        · refine v_iinc k_Canon_firstIllBeat_22 rfl (Nat.le_of_ble_eq_true rfl) ?_
          refine v_goto k_Canon_firstIllBeat_25 (tgt := 7) rfl ?_
          refine ih (i + 1) h14 (by omega) ?_ sg2 sd2 hp2 (f1.tr f2 (by omega) (by omega))
          rw [← ht]
          simp only [fIB]
          rw [if_neg (by omega)]
        · refine v_iload_n k_Canon_firstIllBeat_20 rfl ?_
          refine v_ireturn k_Canon_firstIllBeat_21 rfl rfl ?_
          refine ⟨?_, _, _, hp2, f1.tr f2 (by omega) (by omega)⟩
          rw [← ht]
          simp only [fIB]
          rw [if_pos (by omega)]
  refine v_aload_n k_Canon_firstIllBeat_0 rfl ?_
  refine v_callVr mo_Canon_end mi_Canon_end mv_Canon_end lk_Canon_133 k_Canon_firstIllBeat_1 c0 rfl rfl (Nat.le_of_ble_eq_true rfl) rfl (Nat.le_of_ble_eq_true rfl) (c_Canon_end G hp w) ?_
  refine v_istore_n k_Canon_firstIllBeat_4 ⟨Nat.le_of_ble_eq_true rfl, Nat.le_of_ble_eq_true rfl⟩ ?_
  refine v_iconst k_Canon_firstIllBeat_5 ?_
  refine v_istore_n k_Canon_firstIllBeat_6 ⟨Nat.le_of_ble_eq_true rfl, Nat.le_of_ble_eq_true rfl⟩ ?_
  exact loop (q_endK K).toNat 0 h (by omega) rfl _ _ hp Fr.rf

set_option maxHeartbeats 4000000 in
set_option maxRecDepth 20000 in
theorem c_Canon_firstIllPair (G : Gx) {h : AH} {c : Nat} {K : CK} {sg sd : List Int} (hp : pCanon h c K sg sd) (w : wK K) {b : Int} (hb : 0 ≤ b ∧ b ≤ 450) : Ct G Y_Canon_firstIllPair 5 0 0 [aR c, aI b] h (fun v h' => v = some (aI (fpP (kW K) (so K b))) ∧ ∃ sg sd, pCanon h' c K sg sd ∧ Fr (c + 14) (c + 18) h h') := by
  obtain ⟨c0, c1, c2, c3, c4, c5, c6⟩ := id hp
  have hbt : (nob (kL K)).length = bt K := rfl
  have b1 := so_len w b
  refine Ct.of_V mo_Canon_firstIllPair rfl (Nat.le_of_ble_eq_true rfl) rfl ?_
  refine v_aload_n k_Canon_firstIllPair_0 rfl ?_
  refine v_iload_n k_Canon_firstIllPair_1 rfl ?_
  refine v_callV mo_Canon_listen mi_Canon_listen mv_Canon_listen lk_Canon_127 k_Canon_firstIllPair_2 c0 rfl rfl (Nat.le_of_ble_eq_true rfl) rfl (Nat.le_of_ble_eq_true rfl) (c_Canon_listen G hp w (by omega)) (fun v2 h2 q2 => ?_)
  obtain ⟨rfl, hp1, f1⟩ := q2
  obtain ⟨c0, c1, c2, c3, c4, c5, c6⟩ := id hp1
  have el1 : ((so K b).map Prod.fst).length = (so K b).length := List.length_map _
  have el2 : ((so K b).map Prod.snd).length = (so K b).length := List.length_map _
  refine v_iconst k_Canon_firstIllPair_5 ?_
  refine v_istore_n k_Canon_firstIllPair_6 ⟨Nat.le_of_ble_eq_true rfl, Nat.le_of_ble_eq_true rfl⟩ ?_
  have loop : ∀ (k : Nat) (i : Nat) (x : Option AV), ((so K b).length < i + k) → (i ≤ (so K b).length) → (fpP (kW K) ((so K b).drop i) = fpP (kW K) (so K b)) → V G Y_Canon_firstIllPair 5 0 0 7 [some (aR c), some (aI b), some (aI i), x] [] h2 (fun v h' => v = some (aI (fpP (kW K) (so K b))) ∧ ∃ sg sd, pCanon h' c K sg sd ∧ Fr (c + 14) (c + 18) h h') := by
    intro k
    induction k with
    | zero => intro i x hk hi ht; exfalso; omega
    | succ k ih =>
      intro i x hk hi ht
      have g1 := rget_bd (so_sg w b) (by decide) (by decide) (i : Int)
      refine v_iload_n k_Canon_firstIllPair_7 rfl ?_
      refine v_aload_n k_Canon_firstIllPair_8 rfl ?_
      refine v_getf fl_Canon_33 c0 rfl k_Canon_firstIllPair_9 ?_
      refine v_callVr mo_Row_size mi_Row_size mv_Row_size lk_Canon_56 k_Canon_firstIllPair_12 c5.obj rfl rfl (Nat.le_of_ble_eq_true rfl) rfl (Nat.le_of_ble_eq_true rfl) (c_Row_size G c5) ?_
      refine v_icge 75 k_Canon_firstIllPair_15 rfl (by omega) (by omega) (fun c15 => ?_) (fun c15 => ?_)
      · refine v_bipush k_Canon_firstIllPair_75 (by decide) ?_
        refine v_ireturn k_Canon_firstIllPair_77 rfl rfl ?_
        have ei : i = (so K b).length := by omega
        rw [ei, List.drop_length] at ht
        exact ⟨by rw [← ht]; rfl, _, _, hp1, f1⟩
      · refine v_iload_n k_Canon_firstIllPair_18 rfl ?_
        refine v_iconst k_Canon_firstIllPair_19 ?_
        refine v_iadd k_Canon_firstIllPair_20 ?_
        refine v_istore_n k_Canon_firstIllPair_21 ⟨Nat.le_of_ble_eq_true rfl, Nat.le_of_ble_eq_true rfl⟩ ?_
        have loop2 : ∀ (k2 : Nat) (j : Nat), ((so K b).length < j + k2) → (j ≤ (so K b).length) → ((if fpI (kW K) (rget ((so K b).map Prod.snd) i) (rget ((so K b).map Prod.fst) i) ((so K b).drop j) = -9 then fpP (kW K) ((so K b).drop (i + 1)) else fpI (kW K) (rget ((so K b).map Prod.snd) i) (rget ((so K b).map Prod.fst) i) ((so K b).drop j)) = fpP (kW K) (so K b)) → V G Y_Canon_firstIllPair 5 0 0 22 [some (aR c), some (aI b), some (aI i), some (aI j)] [] h2 (fun v h' => v = some (aI (fpP (kW K) (so K b))) ∧ ∃ sg sd, pCanon h' c K sg sd ∧ Fr (c + 14) (c + 18) h h') := by
          intro k2
          induction k2 with
          | zero => intro j hk2 hj ht; exfalso; omega
          | succ k2 ih2 =>
            intro j hk2 hj ht
            refine v_iload_n k_Canon_firstIllPair_22 rfl ?_
            refine v_aload_n k_Canon_firstIllPair_23 rfl ?_
            refine v_getf fl_Canon_33 c0 rfl k_Canon_firstIllPair_24 ?_
            refine v_callVr mo_Row_size mi_Row_size mv_Row_size lk_Canon_56 k_Canon_firstIllPair_27 c5.obj rfl rfl (Nat.le_of_ble_eq_true rfl) rfl (Nat.le_of_ble_eq_true rfl) (c_Row_size G c5) ?_
            refine v_icge 69 k_Canon_firstIllPair_30 rfl (by omega) (by omega) (fun c30 => ?_) (fun c30 => ?_)
            · have ej : j = (so K b).length := by omega
              refine v_iinc k_Canon_firstIllPair_69 rfl (Nat.le_of_ble_eq_true rfl) ?_
              refine v_goto k_Canon_firstIllPair_72 (tgt := 7) rfl ?_
              refine ih (i + 1) _ (by omega) (by omega) ?_
              rw [ej, List.drop_length] at ht
              rw [← ht]
              simp only [fpI]
              rfl
            · refine v_aload_n k_Canon_firstIllPair_33 rfl ?_
              refine v_iload_n k_Canon_firstIllPair_34 rfl ?_
              refine v_iload_n k_Canon_firstIllPair_35 rfl ?_
              refine v_callVr mo_Canon_clash mi_Canon_clash mv_Canon_clash lk_Canon_130 k_Canon_firstIllPair_36 c0 rfl rfl (Nat.le_of_ble_eq_true rfl) rfl (Nat.le_of_ble_eq_true rfl) (c_Canon_clash G hp1 w (so_sd w b) (by omega) (by omega)) ?_
              refine v_ifeq 63 k_Canon_firstIllPair_39 rfl (by split <;> decide) (fun c39 => ?_) (fun c39 => ?_)
              · refine v_iinc k_Canon_firstIllPair_63 rfl (Nat.le_of_ble_eq_true rfl) ?_
                refine v_goto k_Canon_firstIllPair_66 (tgt := 22) rfl ?_
                refine ih2 (j + 1) (by omega) (by omega) ?_
                rw [drop_at (show j < (so K b).length by omega)] at ht
                rw [← ht]
                rw [rgM Prod.snd (L := so K b) (i := i) (by omega), rgM Prod.snd (L := so K b) (i := j) (by omega)] at c39
                rw [rgM Prod.snd (L := so K b) (i := i) (by omega)]
                have hq : wl (kW K) (((so K b)[i]).2 - ((so K b)[j]).2) = true := by
                  apply Classical.byContradiction
                  intro hq
                  rw [if_neg hq] at c39
                  exact absurd c39 (by decide)
                rw [fpI_wl hq]
              · refine v_bipush k_Canon_firstIllPair_42 (by decide) ?_
                refine v_aload_n k_Canon_firstIllPair_44 rfl ?_
                refine v_getf fl_Canon_33 c0 rfl k_Canon_firstIllPair_45 ?_
                refine v_iload_n k_Canon_firstIllPair_48 rfl ?_
                refine v_callVr mo_Row_get mi_Row_get mv_Row_get lk_Canon_64 k_Canon_firstIllPair_49 c5.obj rfl rfl (Nat.le_of_ble_eq_true rfl) rfl (Nat.le_of_ble_eq_true rfl) (c_Row_get G c5 (by omega)) ?_
                refine v_imul k_Canon_firstIllPair_52 ?_
                refine v_aload_n k_Canon_firstIllPair_53 rfl ?_
                refine v_getf fl_Canon_33 c0 rfl k_Canon_firstIllPair_54 ?_
                refine v_iload_n k_Canon_firstIllPair_57 rfl ?_
                refine v_callVr mo_Row_get mi_Row_get mv_Row_get lk_Canon_64 k_Canon_firstIllPair_58 c5.obj rfl rfl (Nat.le_of_ble_eq_true rfl) rfl (Nat.le_of_ble_eq_true rfl) (c_Row_get G c5 (by omega)) ?_
                refine v_iadd k_Canon_firstIllPair_61 ?_
                refine v_ireturn k_Canon_firstIllPair_62 rfl rfl ?_
                refine ⟨?_, _, _, hp1, f1⟩
                rw [← ht, drop_at (show j < (so K b).length by omega)]
                rw [rgM Prod.snd (L := so K b) (i := i) (by omega), rgM Prod.snd (L := so K b) (i := j) (by omega)] at c39
                have hq : ¬ wl (kW K) (((so K b)[i]).2 - ((so K b)[j]).2) = true := by
                  intro hq
                  rw [if_pos hq] at c39
                  exact c39 rfl
                rw [rgM Prod.snd (L := so K b) (i := i) (by omega), fpI_no hq, rgM Prod.fst (L := so K b) (i := i) (by omega), rgM Prod.fst (L := so K b) (i := j) (by omega)]
                have g1 := (soF_bd w b _ _ (List.getElem_mem (show i < (so K b).length by omega))).1
                have g2 := (soF_bd w b _ _ (List.getElem_mem (show j < (so K b).length by omega))).1
                rw [if_neg (show ¬ 10 * ((so K b)[i]).1 + ((so K b)[j]).1 = -9 by omega)]
        refine loop2 8 (i + 1) (by omega) (by omega) ?_
        rw [drop_at (show i < (so K b).length by omega)] at ht
        rw [← ht, rgM Prod.snd (L := so K b) (i := i) (by omega), rgM Prod.fst (L := so K b) (i := i) (by omega)]
        rfl
  exact loop 8 0 _ (by omega) (by omega) (by rw [List.drop_zero])

/-- the voices (bits) that are in all ill pairs -/
def vaI (W a va : Int) : List (Int × Int) → Nat → Nat
  | [], acc => acc
  | q :: t, acc => vaI W a va t (if wl W (a - q.2) then acc else acc &&& (2 ^ va.toNat ||| 2 ^ q.1.toNat))
def vaP (W : Int) : List (Int × Int) → Nat → Nat
  | [], acc => acc
  | q :: t, acc => vaP W t (vaI W q.2 q.1 t acc)
def vaB (K : CK) : Nat → Nat → Nat → Nat
  | 0, _, acc => acc
  | k + 1, b, acc => vaB K k (b + 1) (vaP (kW K) (so K b) acc)
theorem vaI_wl {W a va : Int} {q : Int × Int} {t : List (Int × Int)} {acc : Nat} (h : wl W (a - q.2) = true) : vaI W a va (q :: t) acc = vaI W a va t acc := by simp only [vaI]; rw [if_pos h]
theorem vaI_no {W a va : Int} {q : Int × Int} {t : List (Int × Int)} {acc : Nat} (h : ¬ wl W (a - q.2) = true) : vaI W a va (q :: t) acc = vaI W a va t (acc &&& (2 ^ va.toNat ||| 2 ^ q.1.toNat)) := by simp only [vaI]; rw [if_neg h]
theorem pow_pred (n : Nat) : ((2 ^ n : Nat) : Int) - 1 = ((2 ^ n - 1 : Nat) : Int) := by have := Nat.two_pow_pos n; omega
set_option maxHeartbeats 4000000 in
set_option maxRecDepth 20000 in
theorem c_Canon_voicesInAllIlls (G : Gx) {h : AH} {c : Nat} {K : CK} {sg sd : List Int} (hp : pCanon h c K sg sd) (w : wK K) : Ct G Y_Canon_voicesInAllIlls 6 0 0 [aR c] h (fun v h' => v = some (aI (vaB K (q_endK K).toNat 0 (2 ^ (kK K).length - 1) : Nat)) ∧ ∃ sg sd, pCanon h' c K sg sd ∧ Fr (c + 14) (c + 18) h h') := by
  obtain ⟨c0, c1, c2, c3, c4, c5, c6⟩ := id hp
  have hbt : (nob (kL K)).length = bt K := rfl
  have b1 := w.endK
  have b3 := w.nv
  refine Ct.of_V mo_Canon_voicesInAllIlls rfl (Nat.le_of_ble_eq_true rfl) rfl ?_
  have loopb : ∀ (kb : Nat) (b : Nat) (h1 : AH) (acc1 : Nat) (x z : Option AV), ((q_endK K).toNat = b + kb) → (vaB K kb b acc1 = vaB K (q_endK K).toNat 0 (2 ^ (kK K).length - 1)) → ∀ sg sd, pCanon h1 c K sg sd → Fr (c + 14) (c + 18) h h1 → V G Y_Canon_voicesInAllIlls 6 0 0 16 [some (aR c), some (aI (acc1 : Nat)), some (aI (q_endK K)), some (aI b), x, z] [] h1 (fun v h' => v = some (aI (vaB K (q_endK K).toNat 0 (2 ^ (kK K).length - 1) : Nat)) ∧ ∃ sg sd, pCanon h' c K sg sd ∧ Fr (c + 14) (c + 18) h h') := by
    intro kb
    induction kb with
    | zero =>
      intro b h1 acc1 x z hk hb sg1 sd1 hp1 f1
      refine v_iload_n k_Canon_voicesInAllIlls_16 rfl ?_
      refine v_iload_n k_Canon_voicesInAllIlls_17 rfl ?_
      refine v_icge 114 k_Canon_voicesInAllIlls_18 rfl (by omega) (by omega) (fun c18 => ?_) (fun c18 => ?_)
      · refine v_iload_n k_Canon_voicesInAllIlls_114 rfl ?_
        refine v_ireturn k_Canon_voicesInAllIlls_115 rfl rfl ?_
        refine ⟨?_, _, _, hp1, f1⟩
        rw [← hb]
        rfl
      · exfalso; omega
    | succ kb ihb =>
      intro b h1 acc1 x z hk hb sg1 sd1 hp1 f1
      obtain ⟨c0, c1, c2, c3, c4, c5, c6⟩ := id hp1
      have hbt : (nob (kL K)).length = bt K := rfl
      refine v_iload_n k_Canon_voicesInAllIlls_16 rfl ?_
      refine v_iload_n k_Canon_voicesInAllIlls_17 rfl ?_
      refine v_icge 114 k_Canon_voicesInAllIlls_18 rfl (by omega) (by omega) (fun c18 => ?_) (fun c18 => ?_)
      · exfalso; omega
      · refine v_aload_n k_Canon_voicesInAllIlls_21 rfl ?_
        refine v_iload_n k_Canon_voicesInAllIlls_22 rfl ?_
        refine v_callV mo_Canon_listen mi_Canon_listen mv_Canon_listen lk_Canon_127 k_Canon_voicesInAllIlls_23 c0 rfl rfl (Nat.le_of_ble_eq_true rfl) rfl (Nat.le_of_ble_eq_true rfl) (c_Canon_listen G hp1 w (by omega)) (fun v23 h23 q23 => ?_)
        obtain ⟨rfl, hp2, f3⟩ := q23
        have f2 := f1.tr f3 (by omega) (by omega)
        obtain ⟨c0, c1, c2, c3, c4, c5, c6⟩ := id hp2
        have el1 : ((so K b).map Prod.fst).length = (so K b).length := List.length_map _
        have el2 : ((so K b).map Prod.snd).length = (so K b).length := List.length_map _
        have b2 := so_len w b
        refine v_iconst k_Canon_voicesInAllIlls_26 ?_
        refine v_istore k_Canon_voicesInAllIlls_27 ⟨Nat.le_of_ble_eq_true rfl, Nat.le_of_ble_eq_true rfl⟩ ?_
        have loop : ∀ (k : Nat) (i acc : Nat) (x : Option AV), ((so K b).length < i + k) → (i ≤ (so K b).length) → (vaP (kW K) ((so K b).drop i) acc = vaP (kW K) (so K b) acc1) → V G Y_Canon_voicesInAllIlls 6 0 0 29 [some (aR c), some (aI (acc : Nat)), some (aI (q_endK K)), some (aI b), some (aI i), x] [] h23 (fun v h' => v = some (aI (vaB K (q_endK K).toNat 0 (2 ^ (kK K).length - 1) : Nat)) ∧ ∃ sg sd, pCanon h' c K sg sd ∧ Fr (c + 14) (c + 18) h h') := by
          intro k
          induction k with
          | zero => intro i acc x hk hi ht; exfalso; omega
          | succ k ih =>
            intro i acc x hk hi ht
            have g1 := rget_bd (so_sg w b) (by decide) (by decide) (i : Int)
            refine v_iload k_Canon_voicesInAllIlls_29 rfl ?_
            refine v_aload_n k_Canon_voicesInAllIlls_31 rfl ?_
            refine v_getf fl_Canon_33 c0 rfl k_Canon_voicesInAllIlls_32 ?_
            refine v_callVr mo_Row_size mi_Row_size mv_Row_size lk_Canon_56 k_Canon_voicesInAllIlls_35 c5.obj rfl rfl (Nat.le_of_ble_eq_true rfl) rfl (Nat.le_of_ble_eq_true rfl) (c_Row_size G c5) ?_
            refine v_icge 108 k_Canon_voicesInAllIlls_38 rfl (by omega) (by omega) (fun c38 => ?_) (fun c38 => ?_)
            · have ei : i = (so K b).length := by omega
              rw [ei, List.drop_length] at ht
              refine v_iinc k_Canon_voicesInAllIlls_108 rfl (Nat.le_of_ble_eq_true rfl) ?_
              refine v_goto k_Canon_voicesInAllIlls_111 (tgt := 16) rfl ?_
              simp only [vaP] at ht
              refine ihb (b + 1) h23 acc _ _ (by omega) ?_ _ _ hp2 f2
              rw [ht]
              exact hb
            · refine v_iload k_Canon_voicesInAllIlls_41 rfl ?_
              refine v_iconst k_Canon_voicesInAllIlls_43 ?_
              refine v_iadd k_Canon_voicesInAllIlls_44 ?_
              refine v_istore k_Canon_voicesInAllIlls_45 ⟨Nat.le_of_ble_eq_true rfl, Nat.le_of_ble_eq_true rfl⟩ ?_
              have loop2 : ∀ (k2 : Nat) (j acc2 : Nat), ((so K b).length < j + k2) → (j ≤ (so K b).length) → (vaP (kW K) ((so K b).drop (i + 1)) (vaI (kW K) (rget ((so K b).map Prod.snd) i) (rget ((so K b).map Prod.fst) i) ((so K b).drop j) acc2) = vaP (kW K) (so K b) acc1) → V G Y_Canon_voicesInAllIlls 6 0 0 47 [some (aR c), some (aI (acc2 : Nat)), some (aI (q_endK K)), some (aI b), some (aI i), some (aI j)] [] h23 (fun v h' => v = some (aI (vaB K (q_endK K).toNat 0 (2 ^ (kK K).length - 1) : Nat)) ∧ ∃ sg sd, pCanon h' c K sg sd ∧ Fr (c + 14) (c + 18) h h') := by
                intro k2
                induction k2 with
                | zero => intro j acc2 hk2 hj ht; exfalso; omega
                | succ k2 ih2 =>
                  intro j acc2 hk2 hj ht
                  have g2 := rget_bd (so_sg w b) (by decide) (by decide) (j : Int)
                  refine v_iload k_Canon_voicesInAllIlls_47 rfl ?_
                  refine v_aload_n k_Canon_voicesInAllIlls_49 rfl ?_
                  refine v_getf fl_Canon_33 c0 rfl k_Canon_voicesInAllIlls_50 ?_
                  refine v_callVr mo_Row_size mi_Row_size mv_Row_size lk_Canon_56 k_Canon_voicesInAllIlls_53 c5.obj rfl rfl (Nat.le_of_ble_eq_true rfl) rfl (Nat.le_of_ble_eq_true rfl) (c_Row_size G c5) ?_
                  refine v_icge 102 k_Canon_voicesInAllIlls_56 rfl (by omega) (by omega) (fun c56 => ?_) (fun c56 => ?_)
                  · have ej : j = (so K b).length := by omega
                    refine v_iinc k_Canon_voicesInAllIlls_102 rfl (Nat.le_of_ble_eq_true rfl) ?_
                    refine v_goto k_Canon_voicesInAllIlls_105 (tgt := 29) rfl ?_
                    refine ih (i + 1) acc2 _ (by omega) (by omega) ?_
                    rw [ej, List.drop_length] at ht
                    rw [← ht]
                    rfl
                  · refine v_aload_n k_Canon_voicesInAllIlls_59 rfl ?_
                    refine v_iload k_Canon_voicesInAllIlls_60 rfl ?_
                    refine v_iload k_Canon_voicesInAllIlls_62 rfl ?_
                    refine v_callVr mo_Canon_clash mi_Canon_clash mv_Canon_clash lk_Canon_130 k_Canon_voicesInAllIlls_64 c0 rfl rfl (Nat.le_of_ble_eq_true rfl) rfl (Nat.le_of_ble_eq_true rfl) (c_Canon_clash G hp2 w (so_sd w b) (by omega) (by omega)) ?_
                    refine v_ifeq 96 k_Canon_voicesInAllIlls_67 rfl (by split <;> decide) (fun c67 => ?_) (fun c67 => ?_)
                    · refine v_iinc k_Canon_voicesInAllIlls_96 rfl (Nat.le_of_ble_eq_true rfl) ?_
                      refine v_goto k_Canon_voicesInAllIlls_99 (tgt := 47) rfl ?_
                      refine ih2 (j + 1) _ (by omega) (by omega) ?_
                      rw [drop_at (show j < (so K b).length by omega)] at ht
                      rw [← ht]
                      rw [rgM Prod.snd (L := so K b) (i := i) (by omega), rgM Prod.snd (L := so K b) (i := j) (by omega)] at c67
                      rw [rgM Prod.snd (L := so K b) (i := i) (by omega)]
                      by_cases hq : wl (kW K) (((so K b)[i]).2 - ((so K b)[j]).2) = true
                      · first
                          | (rw [vaI_wl hq]; done)
                          | (rw [if_pos hq] at c67; exact absurd rfl c67)
                      · first
                          | (rw [vaI_no hq, ← rgM Prod.fst (L := so K b) (i := j) (by omega)]; done)
                          | (rw [if_neg hq] at c67; exact absurd c67 (by decide))
                    · refine v_iload_n k_Canon_voicesInAllIlls_70 rfl ?_
                      refine v_iconst k_Canon_voicesInAllIlls_71 ?_
                      refine v_aload_n k_Canon_voicesInAllIlls_72 rfl ?_
                      refine v_getf fl_Canon_33 c0 rfl k_Canon_voicesInAllIlls_73 ?_
                      refine v_iload k_Canon_voicesInAllIlls_76 rfl ?_
                      refine v_callVr mo_Row_get mi_Row_get mv_Row_get lk_Canon_64 k_Canon_voicesInAllIlls_78 c5.obj rfl rfl (Nat.le_of_ble_eq_true rfl) rfl (Nat.le_of_ble_eq_true rfl) (c_Row_get G c5 (by omega)) ?_
                      refine v_bit k_Canon_voicesInAllIlls_81 (by omega) ?_
                      refine v_iconst k_Canon_voicesInAllIlls_82 ?_
                      refine v_aload_n k_Canon_voicesInAllIlls_83 rfl ?_
                      refine v_getf fl_Canon_33 c0 rfl k_Canon_voicesInAllIlls_84 ?_
                      refine v_iload k_Canon_voicesInAllIlls_87 rfl ?_
                      refine v_callVr mo_Row_get mi_Row_get mv_Row_get lk_Canon_64 k_Canon_voicesInAllIlls_89 c5.obj rfl rfl (Nat.le_of_ble_eq_true rfl) rfl (Nat.le_of_ble_eq_true rfl) (c_Row_get G c5 (by omega)) ?_
                      refine v_bit k_Canon_voicesInAllIlls_92 (by omega) ?_
                      refine v_iorN k_Canon_voicesInAllIlls_93 ?_
                      refine v_iandN k_Canon_voicesInAllIlls_94 ?_
                      refine v_istore_n k_Canon_voicesInAllIlls_95 ⟨Nat.le_of_ble_eq_true rfl, Nat.le_of_ble_eq_true rfl⟩ ?_
                      refine v_iinc k_Canon_voicesInAllIlls_96 rfl (Nat.le_of_ble_eq_true rfl) ?_
                      refine v_goto k_Canon_voicesInAllIlls_99 (tgt := 47) rfl ?_
                      refine ih2 (j + 1) _ (by omega) (by omega) ?_
                      rw [drop_at (show j < (so K b).length by omega)] at ht
                      rw [← ht]
                      rw [rgM Prod.snd (L := so K b) (i := i) (by omega), rgM Prod.snd (L := so K b) (i := j) (by omega)] at c67
                      rw [rgM Prod.snd (L := so K b) (i := i) (by omega)]
                      by_cases hq : wl (kW K) (((so K b)[i]).2 - ((so K b)[j]).2) = true
                      · first
                          | (rw [vaI_wl hq]; done)
                          | (rw [if_pos hq] at c67; exact absurd rfl c67)
                      · first
                          | (rw [vaI_no hq, ← rgM Prod.fst (L := so K b) (i := j) (by omega)]; done)
                          | (rw [if_neg hq] at c67; exact absurd c67 (by decide))
              refine loop2 8 (i + 1) acc (by omega) (by omega) ?_
              rw [drop_at (show i < (so K b).length by omega)] at ht
              rw [← ht, rgM Prod.snd (L := so K b) (i := i) (by omega), rgM Prod.fst (L := so K b) (i := i) (by omega)]
              rfl
        exact loop 8 0 acc1 _ (by omega) (by omega) (by rw [List.drop_zero])
  refine v_iconst k_Canon_voicesInAllIlls_0 ?_
  refine v_aload_n k_Canon_voicesInAllIlls_1 rfl ?_
  refine v_callVr mo_Canon_voices mi_Canon_voices mv_Canon_voices lk_Canon_80 k_Canon_voicesInAllIlls_2 c0 rfl rfl (Nat.le_of_ble_eq_true rfl) rfl (Nat.le_of_ble_eq_true rfl) (c_Canon_voices G hp) ?_
  refine v_bit k_Canon_voicesInAllIlls_5 (by omega) ?_
  refine v_iconst k_Canon_voicesInAllIlls_6 ?_
  refine v_isub k_Canon_voicesInAllIlls_7 ?_
  rw [Int.toNat_natCast, pow_pred]
  refine v_istore_n k_Canon_voicesInAllIlls_8 ⟨Nat.le_of_ble_eq_true rfl, Nat.le_of_ble_eq_true rfl⟩ ?_
  refine v_aload_n k_Canon_voicesInAllIlls_9 rfl ?_
  refine v_callVr mo_Canon_end mi_Canon_end mv_Canon_end lk_Canon_133 k_Canon_voicesInAllIlls_10 c0 rfl rfl (Nat.le_of_ble_eq_true rfl) rfl (Nat.le_of_ble_eq_true rfl) (c_Canon_end G hp w) ?_
  refine v_istore_n k_Canon_voicesInAllIlls_13 ⟨Nat.le_of_ble_eq_true rfl, Nat.le_of_ble_eq_true rfl⟩ ?_
  refine v_iconst k_Canon_voicesInAllIlls_14 ?_
  refine v_istore_n k_Canon_voicesInAllIlls_15 ⟨Nat.le_of_ble_eq_true rfl, Nat.le_of_ble_eq_true rfl⟩ ?_
  exact loopb (q_endK K).toNat 0 h _ _ _ (by omega) rfl _ _ hp Fr.rf
end
section
/-- the last who sounds agrees with those ahead -/
def laO (W a : Int) : List (Int × Int) → Bool
  | [] => true
  | q :: t => wl W (a - q.2) && laO W a t
def laI (K : CK) (b : Int) : Bool := laO (kW K) (rget ((so K b).map Prod.snd) (((so K b).length : Int) - 1)) ((so K b).take ((so K b).length - 1))
def laB (K : CK) : Nat → Int → Bool
  | 0, _ => true
  | k + 1, b => laI K b && laB K k (b + 1)
/-- the least, the greatest that a voice sounds -/
def far (K : CK) (v u : Int) : Nat → Int → Int → Int
  | 0, _, acc => acc
  | k + 1, b, acc => far K v u k (b + 1) (if acc = 999 then sO K v b else if u = 0 then min acc (sO K v b) else max acc (sO K v b))
/-- stop -/
def sts (K : CK) (b : Int) : Nat → Int
  | 0 => 0
  | n + 1 => if 0 < q_rB K n ∧ 0 ≤ b - rget (kE K) n then max (sts K b n) (rget (kE K) n + min ((b - rget (kE K) n) / q_rB K n + 1) (kR K) * q_rB K n) else sts K b n
/-- two that sound the same -/
def unI (a : Int) : List (Int × Int) → Bool
  | [] => false
  | q :: t => decide (a = q.2) || unI a t
def unP : List (Int × Int) → Bool
  | [] => false
  | q :: t => unI q.2 t || unP t
def unS (K : CK) : Nat → Int
  | 0 => 0
  | n + 1 => unS K n + (if unP (so K n) then 1 else 0)
/-- the first number of a row that a voice does not sound from a beat on -/
def fnH (K : CK) (v b : Int) : List Int → Nat → Int
  | [], _ => -9
  | x :: t, i => if x = (if sO K v (b + i) = 999 then 60 else sO K v (b + i) + 10) then fnH K v b t (i + 1) else (i : Int)
theorem take_drop_at {α : Type} {L : List α} {m j : Nat} (hm : m ≤ L.length) (hj : j < m) : (L.take m).drop j = L[j] :: (L.take m).drop (j + 1) := by
  have h1 : j < (L.take m).length := by rw [List.length_take]; omega
  rw [drop_at h1, List.getElem_take]
set_option maxHeartbeats 4000000 in
set_option maxRecDepth 20000 in
theorem c_Canon_lastAgreesWithAll (G : Gx) {h : AH} {c : Nat} {K : CK} {sg sd : List Int} (hp : pCanon h c K sg sd) (w : wK K) (hv1 : 1 ≤ (kK K).length) : Ct G Y_Canon_lastAgreesWithAll 6 0 0 [aR c] h (fun v h' => v = some (aI (if laB K (q_stl K ((kK K).length - 1) - rget (kE K) ((kK K).length - 1)).toNat (rget (kE K) ((kK K).length - 1)) then 1 else 0)) ∧ ∃ sg sd, pCanon h' c K sg sd ∧ Fr (c + 14) (c + 18) h h') := by
  obtain ⟨c0, c1, c2, c3, c4, c5, c6⟩ := id hp
  have hbt : (nob (kL K)).length = bt K := rfl
  have b1 := w.stl ((kK K).length - 1)
  have b3 := w.nv
  have b4 := w.en ((kK K).length - 1)
  have b5 := w.rr ((kK K).length - 1)
  have b6 : q_stl K ((kK K).length - 1) = rget (kE K) ((kK K).length - 1) + kR K * q_rB K ((kK K).length - 1) := rfl
  refine Ct.of_V mo_Canon_lastAgreesWithAll rfl (Nat.le_of_ble_eq_true rfl) rfl ?_
  have loopb : ∀ (kb : Nat) (b : Int) (h1 : AH) (x z : Option AV), (q_stl K ((kK K).length - 1) = b + kb) → (0 ≤ b) → (laB K kb b = laB K (q_stl K ((kK K).length - 1) - rget (kE K) ((kK K).length - 1)).toNat (rget (kE K) ((kK K).length - 1))) → ∀ sg sd, pCanon h1 c K sg sd → Fr (c + 14) (c + 18) h h1 → V G Y_Canon_lastAgreesWithAll 6 0 0 22 [some (aR c), some (aI (((kK K).length : Int) - 1)), some (aI (q_stl K ((kK K).length - 1))), some (aI b), x, z] [] h1 (fun v h' => v = some (aI (if laB K (q_stl K ((kK K).length - 1) - rget (kE K) ((kK K).length - 1)).toNat (rget (kE K) ((kK K).length - 1)) then 1 else 0)) ∧ ∃ sg sd, pCanon h' c K sg sd ∧ Fr (c + 14) (c + 18) h h') := by
    intro kb
    induction kb with
    | zero =>
      intro b h1 x z hk hb0 hb sg1 sd1 hp1 f1
      refine v_iload_n k_Canon_lastAgreesWithAll_22 rfl ?_
      refine v_iload_n k_Canon_lastAgreesWithAll_23 rfl ?_
      refine v_icge 78 k_Canon_lastAgreesWithAll_24 rfl (by omega) (by omega) (fun c24 => ?_) (fun c24 => ?_)
      · refine v_iconst k_Canon_lastAgreesWithAll_78 ?_
        refine v_ireturn k_Canon_lastAgreesWithAll_79 rfl (by first | rfl | (split <;> rfl)) ?_
        refine ⟨?_, _, _, hp1, f1⟩
        rw [← hb]
        rfl
      · exfalso; omega
    | succ kb ihb =>
      intro b h1 x z hk hb0 hb sg1 sd1 hp1 f1
      obtain ⟨c0, c1, c2, c3, c4, c5, c6⟩ := id hp1
      have hbt : (nob (kL K)).length = bt K := rfl
      refine v_iload_n k_Canon_lastAgreesWithAll_22 rfl ?_
      refine v_iload_n k_Canon_lastAgreesWithAll_23 rfl ?_
      refine v_icge 78 k_Canon_lastAgreesWithAll_24 rfl (by omega) (by omega) (fun c24 => ?_) (fun c24 => ?_)
      · exfalso; omega
      · refine v_aload_n k_Canon_lastAgreesWithAll_27 rfl ?_
        refine v_iload_n k_Canon_lastAgreesWithAll_28 rfl ?_
        refine v_callV mo_Canon_listen mi_Canon_listen mv_Canon_listen lk_Canon_127 k_Canon_lastAgreesWithAll_29 c0 rfl rfl (Nat.le_of_ble_eq_true rfl) rfl (Nat.le_of_ble_eq_true rfl) (c_Canon_listen G hp1 w (by omega)) (fun v29 h29 q29 => ?_)
        obtain ⟨rfl, hp2, f3⟩ := q29
        have f2 := f1.tr f3 (by omega) (by omega)
        obtain ⟨c0, c1, c2, c3, c4, c5, c6⟩ := id hp2
        have el1 : ((so K b).map Prod.fst).length = (so K b).length := List.length_map _
        have el2 : ((so K b).map Prod.snd).length = (so K b).length := List.length_map _
        have b2 := so_len w b
        refine v_aload_n k_Canon_lastAgreesWithAll_32 rfl ?_
        refine v_getf fl_Canon_33 c0 rfl k_Canon_lastAgreesWithAll_33 ?_
        refine v_callVr mo_Row_size mi_Row_size mv_Row_size lk_Canon_56 k_Canon_lastAgreesWithAll_36 c5.obj rfl rfl (Nat.le_of_ble_eq_true rfl) rfl (Nat.le_of_ble_eq_true rfl) (c_Row_size G c5) ?_
        refine v_iconst k_Canon_lastAgreesWithAll_39 ?_
        refine v_isub k_Canon_lastAgreesWithAll_40 ?_
        refine v_istore k_Canon_lastAgreesWithAll_41 ⟨Nat.le_of_ble_eq_true rfl, Nat.le_of_ble_eq_true rfl⟩ ?_
        refine v_iconst k_Canon_lastAgreesWithAll_43 ?_
        refine v_istore k_Canon_lastAgreesWithAll_44 ⟨Nat.le_of_ble_eq_true rfl, Nat.le_of_ble_eq_true rfl⟩ ?_
        have loop2 : ∀ (k2 : Nat) (j : Nat), ((so K b).length < j + k2) → (j ≤ (so K b).length - 1) → (laO (kW K) (rget ((so K b).map Prod.snd) (((so K b).length : Int) - 1)) (((so K b).take ((so K b).length - 1)).drop j) = laI K b) → V G Y_Canon_lastAgreesWithAll 6 0 0 46 [some (aR c), some (aI (((kK K).length : Int) - 1)), some (aI (q_stl K ((kK K).length - 1))), some (aI b), some (aI ((((so K b).map Prod.fst).length : Int) - 1)), some (aI j)] [] h29 (fun v h' => v = some (aI (if laB K (q_stl K ((kK K).length - 1) - rget (kE K) ((kK K).length - 1)).toNat (rget (kE K) ((kK K).length - 1)) then 1 else 0)) ∧ ∃ sg sd, pCanon h' c K sg sd ∧ Fr (c + 14) (c + 18) h h') := by
          intro k2
          induction k2 with
          | zero => intro j hk2 hj ht; exfalso; omega
          | succ k2 ih2 =>
            intro j hk2 hj ht
            refine v_iload k_Canon_lastAgreesWithAll_46 rfl ?_
            refine v_iload k_Canon_lastAgreesWithAll_48 rfl ?_
            refine v_icge 72 k_Canon_lastAgreesWithAll_50 rfl (by omega) (by omega) (fun c50 => ?_) (fun c50 => ?_)
            · have ej : j = (so K b).length - 1 := by omega
              refine v_iinc k_Canon_lastAgreesWithAll_72 rfl (Nat.le_of_ble_eq_true rfl) ?_
              refine v_goto k_Canon_lastAgreesWithAll_75 (tgt := 22) rfl ?_
              have hI : laI K b = true := by
                rw [← ht, ej, List.drop_eq_nil_of_le (by rw [List.length_take]; omega)]
                rfl
              refine ihb (b + 1) _ _ _ (by omega) (by omega) ?_ _ _ hp2 f2
              rw [← hb]
              simp only [laB]
              rw [hI, Bool.true_and]
            · refine v_aload_n k_Canon_lastAgreesWithAll_53 rfl ?_
              refine v_iload k_Canon_lastAgreesWithAll_54 rfl ?_
              refine v_iload k_Canon_lastAgreesWithAll_56 rfl ?_
              refine v_callVr mo_Canon_clash mi_Canon_clash mv_Canon_clash lk_Canon_130 k_Canon_lastAgreesWithAll_58 c0 rfl rfl (Nat.le_of_ble_eq_true rfl) rfl (Nat.le_of_ble_eq_true rfl) (c_Canon_clash G hp2 w (so_sd w b) (by omega) (by omega)) ?_
              refine v_ifeq 66 k_Canon_lastAgreesWithAll_61 rfl (by split <;> decide) (fun c61 => ?_) (fun c61 => ?_)
              · refine v_iinc k_Canon_lastAgreesWithAll_66 rfl (Nat.le_of_ble_eq_true rfl) ?_
                refine v_goto k_Canon_lastAgreesWithAll_69 (tgt := 46) rfl ?_
                refine ih2 (j + 1) (by omega) (by omega) ?_
                have hq : wl (kW K) (rget ((so K b).map Prod.snd) (((so K b).length : Int) - 1) - rget ((so K b).map Prod.snd) j) = true := by
                  apply Classical.byContradiction
                  intro hq
                  rw [el1] at c61
                  rw [if_neg hq] at c61
                  exact absurd c61 (by decide)
                rw [take_drop_at (by omega) (show j < (so K b).length - 1 by omega)] at ht
                simp only [laO] at ht
                rw [← rgM Prod.snd (L := so K b) (i := j) (by omega), hq, Bool.true_and] at ht
                exact ht
              · refine v_iconst k_Canon_lastAgreesWithAll_64 ?_
                refine v_ireturn k_Canon_lastAgreesWithAll_65 rfl (by first | rfl | (split <;> rfl)) ?_
                refine ⟨?_, _, _, hp2, f2⟩
                have hq : ¬ wl (kW K) (rget ((so K b).map Prod.snd) (((so K b).length : Int) - 1) - rget ((so K b).map Prod.snd) j) = true := by
                  intro hq
                  rw [el1] at c61
                  rw [if_pos hq] at c61
                  exact c61 rfl
                rw [take_drop_at (by omega) (show j < (so K b).length - 1 by omega)] at ht
                simp only [laO] at ht
                rw [← rgM Prod.snd (L := so K b) (i := j) (by omega), (Bool.not_eq_true _).mp hq, Bool.false_and] at ht
                have e : laB K (kb + 1) b = false := by simp only [laB]; rw [← ht, Bool.false_and]
                rw [← hb, e]
                rfl
        exact loop2 8 0 (by omega) (by omega) (by rw [List.drop_zero]; rfl)
  refine v_aload_n k_Canon_lastAgreesWithAll_0 rfl ?_
  refine v_callVr mo_Canon_voices mi_Canon_voices mv_Canon_voices lk_Canon_80 k_Canon_lastAgreesWithAll_1 c0 rfl rfl (Nat.le_of_ble_eq_true rfl) rfl (Nat.le_of_ble_eq_true rfl) (c_Canon_voices G hp) ?_
  refine v_iconst k_Canon_lastAgreesWithAll_4 ?_
  refine v_isub k_Canon_lastAgreesWithAll_5 ?_
  refine v_istore_n k_Canon_lastAgreesWithAll_6 ⟨Nat.le_of_ble_eq_true rfl, Nat.le_of_ble_eq_true rfl⟩ ?_
  refine v_aload_n k_Canon_lastAgreesWithAll_7 rfl ?_
  refine v_iload_n k_Canon_lastAgreesWithAll_8 rfl ?_
  refine v_callVr mo_Canon_stillFrom mi_Canon_stillFrom mv_Canon_stillFrom lk_Canon_93 k_Canon_lastAgreesWithAll_9 c0 rfl rfl (Nat.le_of_ble_eq_true rfl) rfl (Nat.le_of_ble_eq_true rfl) (c_Canon_stillFrom G hp w (by omega)) ?_
  refine v_istore_n k_Canon_lastAgreesWithAll_12 ⟨Nat.le_of_ble_eq_true rfl, Nat.le_of_ble_eq_true rfl⟩ ?_
  refine v_aload_n k_Canon_lastAgreesWithAll_13 rfl ?_
  refine v_getf fl_Canon_27 c0 rfl k_Canon_lastAgreesWithAll_14 ?_
  refine v_iload_n k_Canon_lastAgreesWithAll_17 rfl ?_
  refine v_callVr mo_Row_get mi_Row_get mv_Row_get lk_Canon_64 k_Canon_lastAgreesWithAll_18 c3.obj rfl rfl (Nat.le_of_ble_eq_true rfl) rfl (Nat.le_of_ble_eq_true rfl) (c_Row_get G c3 (by omega)) ?_
  refine v_istore_n k_Canon_lastAgreesWithAll_21 ⟨Nat.le_of_ble_eq_true rfl, Nat.le_of_ble_eq_true rfl⟩ ?_
  exact loopb (q_stl K ((kK K).length - 1) - rget (kE K) ((kK K).length - 1)).toNat _ h _ _ (by omega) (by omega) rfl _ _ hp Fr.rf

set_option maxHeartbeats 4000000 in
set_option maxRecDepth 20000 in
theorem c_Canon_farthestSound (G : Gx) {h : AH} {c : Nat} {K : CK} {sg sd : List Int} (hp : pCanon h c K sg sd) (w : wK K) {v u : Int} (hv : InR v) (hu : 0 ≤ u ∧ u ≤ 1) : Ct G Y_Canon_farthestSound 4 0 0 [aR c, aI v, aI u] h (isR (some (aI (far K v u (q_stl K v - rget (kE K) v).toNat (rget (kE K) v) 999))) h) := by
  obtain ⟨c0, c1, c2, c3, c4, c5, c6⟩ := id hp
  have hbt : (nob (kL K)).length = bt K := rfl
  have b1 := w.stl v
  have b4 := w.en v
  have b5 := w.rr v
  have b6 : q_stl K v = rget (kE K) v + kR K * q_rB K v := rfl
  refine Ct.of_V mo_Canon_farthestSound rfl (Nat.le_of_ble_eq_true rfl) rfl ?_
  have loop : ∀ (k : Nat) (b acc : Int) (x : Option AV), (q_stl K v = b + k) → (0 ≤ b) → (-9 ≤ acc ∧ acc ≤ 999) → (far K v u k b acc = far K v u (q_stl K v - rget (kE K) v).toNat (rget (kE K) v) 999) → V G Y_Canon_farthestSound 4 0 0 21 [some (aR c), some (aI v), some (aI u), some (aI acc), some (aI (q_stl K v)), some (aI b), x] [] h (isR (some (aI (far K v u (q_stl K v - rget (kE K) v).toNat (rget (kE K) v) 999))) h) := by
    intro k
    induction k with
    | zero =>
      intro b acc x hk hb ha ht
      refine v_iload k_Canon_farthestSound_21 rfl ?_
      refine v_iload k_Canon_farthestSound_23 rfl ?_
      refine v_icge 76 k_Canon_farthestSound_25 rfl (by omega) (by omega) (fun c25 => ?_) (fun c25 => ?_)
      · refine v_iload_n k_Canon_farthestSound_76 rfl ?_
        refine v_ireturn k_Canon_farthestSound_77 rfl rfl ?_
        refine ⟨?_, rfl⟩
        rw [← ht]
        rfl
      · exfalso; omega
    | succ k ih =>
      intro b acc x hk hb ha ht
      have s1 := sO_bd w v b
      refine v_iload k_Canon_farthestSound_21 rfl ?_
      refine v_iload k_Canon_farthestSound_23 rfl ?_
      refine v_icge 76 k_Canon_farthestSound_25 rfl (by omega) (by omega) (fun c25 => ?_) (fun c25 => ?_)
      · exfalso; omega
      · refine v_aload_n k_Canon_farthestSound_28 rfl ?_
        refine v_iload_n k_Canon_farthestSound_29 rfl ?_
        refine v_iload k_Canon_farthestSound_30 rfl ?_
        refine v_callVr mo_Canon_soundOf mi_Canon_soundOf mv_Canon_soundOf lk_Canon_120 k_Canon_farthestSound_32 c0 rfl rfl (Nat.le_of_ble_eq_true rfl) rfl (Nat.le_of_ble_eq_true rfl) (c_Canon_soundOf G hp w (by omega) (by omega)) ?_
        refine v_istore k_Canon_farthestSound_35 ⟨Nat.le_of_ble_eq_true rfl, Nat.le_of_ble_eq_true rfl⟩ ?_
        refine v_iload_n k_Canon_farthestSound_37 rfl ?_
        refine v_sipush k_Canon_farthestSound_38 (by decide) ?_
        refine v_icne 50 k_Canon_farthestSound_41 rfl (by omega) (by omega) (fun c41 => ?_) (fun c41 => ?_)
        · refine v_iload_n k_Canon_farthestSound_50 rfl ?_
          refine v_ifeq 63 k_Canon_farthestSound_51 rfl (by omega) (fun c51 => ?_) (fun c51 => ?_)
          · refine v_iload_n k_Canon_farthestSound_63 rfl ?_
            refine v_iload k_Canon_farthestSound_64 rfl ?_
            refine v_mmin k_Canon_farthestSound_66 lm_Canon_139 (by omega) (by omega) (Nat.le_of_ble_eq_true rfl) (Nat.le_of_ble_eq_true rfl) ?_
            refine v_istore_n k_Canon_farthestSound_69 ⟨Nat.le_of_ble_eq_true rfl, Nat.le_of_ble_eq_true rfl⟩ ?_
            refine v_iinc k_Canon_farthestSound_70 rfl (Nat.le_of_ble_eq_true rfl) ?_
            refine v_goto k_Canon_farthestSound_73 (tgt := 21) rfl ?_
            refine ih (b + 1) _ _ (by omega) (by omega) (by omega) ?_
            rw [← ht]
            simp only [far]
            first
              | (rw [if_pos (by omega)]; done)
              | (rw [if_neg (by omega), if_pos (by omega)]; done)
              | (rw [if_neg (by omega), if_neg (by omega)]; done)
            skip
          · refine v_iload_n k_Canon_farthestSound_54 rfl ?_
            refine v_iload k_Canon_farthestSound_55 rfl ?_
            refine v_mmax k_Canon_farthestSound_57 lm_Canon_96 (by omega) (by omega) (Nat.le_of_ble_eq_true rfl) (Nat.le_of_ble_eq_true rfl) ?_
            refine v_goto k_Canon_farthestSound_60 (tgt := 69) rfl ?_
            refine v_istore_n k_Canon_farthestSound_69 ⟨Nat.le_of_ble_eq_true rfl, Nat.le_of_ble_eq_true rfl⟩ ?_
            refine v_iinc k_Canon_farthestSound_70 rfl (Nat.le_of_ble_eq_true rfl) ?_
            refine v_goto k_Canon_farthestSound_73 (tgt := 21) rfl ?_
            refine ih (b + 1) _ _ (by omega) (by omega) (by omega) ?_
            rw [← ht]
            simp only [far]
            first
              | (rw [if_pos (by omega)]; done)
              | (rw [if_neg (by omega), if_pos (by omega)]; done)
              | (rw [if_neg (by omega), if_neg (by omega)]; done)
            skip
        · refine v_iload k_Canon_farthestSound_44 rfl ?_
          refine v_istore_n k_Canon_farthestSound_46 ⟨Nat.le_of_ble_eq_true rfl, Nat.le_of_ble_eq_true rfl⟩ ?_
          refine v_goto k_Canon_farthestSound_47 (tgt := 70) rfl ?_
          refine v_iinc k_Canon_farthestSound_70 rfl (Nat.le_of_ble_eq_true rfl) ?_
          refine v_goto k_Canon_farthestSound_73 (tgt := 21) rfl ?_
          refine ih (b + 1) _ _ (by omega) (by omega) (by omega) ?_
          rw [← ht]
          simp only [far]
          first
            | (rw [if_pos (by omega)]; done)
            | (rw [if_neg (by omega), if_pos (by omega)]; done)
            | (rw [if_neg (by omega), if_neg (by omega)]; done)
          skip
  refine v_sipush k_Canon_farthestSound_0 (by decide) ?_
  refine v_istore_n k_Canon_farthestSound_3 ⟨Nat.le_of_ble_eq_true rfl, Nat.le_of_ble_eq_true rfl⟩ ?_
  refine v_aload_n k_Canon_farthestSound_4 rfl ?_
  refine v_iload_n k_Canon_farthestSound_5 rfl ?_
  refine v_callVr mo_Canon_stillFrom mi_Canon_stillFrom mv_Canon_stillFrom lk_Canon_93 k_Canon_farthestSound_6 c0 rfl rfl (Nat.le_of_ble_eq_true rfl) rfl (Nat.le_of_ble_eq_true rfl) (c_Canon_stillFrom G hp w (by omega)) ?_
  refine v_istore k_Canon_farthestSound_9 ⟨Nat.le_of_ble_eq_true rfl, Nat.le_of_ble_eq_true rfl⟩ ?_
  refine v_aload_n k_Canon_farthestSound_11 rfl ?_
  refine v_getf fl_Canon_27 c0 rfl k_Canon_farthestSound_12 ?_
  refine v_iload_n k_Canon_farthestSound_15 rfl ?_
  refine v_callVr mo_Row_get mi_Row_get mv_Row_get lk_Canon_64 k_Canon_farthestSound_16 c3.obj rfl rfl (Nat.le_of_ble_eq_true rfl) rfl (Nat.le_of_ble_eq_true rfl) (c_Row_get G c3 (by omega)) ?_
  refine v_istore k_Canon_farthestSound_19 ⟨Nat.le_of_ble_eq_true rfl, Nat.le_of_ble_eq_true rfl⟩ ?_
  exact loop (q_stl K v - rget (kE K) v).toNat _ _ _ (by omega) (by omega) (by omega) rfl

theorem sts_bd {K : CK} (w : wK K) {b : Int} : ∀ n : Nat, 0 ≤ sts K b n ∧ sts K b n ≤ 356
  | 0 => by simp [sts]
  | n + 1 => by
    have h1 := sts_bd w (b := b) n
    have h2 := w.en n
    have h3 := w.rB n
    have h4 := w.rd
    simp only [sts]
    split
    · rename_i hc
      have h5 := Int.ediv_nonneg hc.2 (Int.le_of_lt hc.1)
      have h6 : 0 ≤ min ((b - rget (kE K) n) / q_rB K n + 1) (kR K) * q_rB K n ∧ min ((b - rget (kE K) n) / q_rB K n + 1) (kR K) * q_rB K n ≤ 4 * 74 := mul_bd (by omega) (by omega) h3.1 h3.2
      omega
    · exact h1
set_option maxHeartbeats 4000000 in
set_option maxRecDepth 20000 in
theorem c_Canon_stillIfStoppedAt (G : Gx) {h : AH} {c : Nat} {K : CK} {sg sd : List Int} (hp : pCanon h c K sg sd) (w : wK K) {b : Int} (hb : 0 ≤ b ∧ b ≤ 400) : Ct G Y_Canon_stillIfStoppedAt 3 0 0 [aR c, aI b] h (isR (some (aI (sts K b (kK K).length))) h) := by
  obtain ⟨c0, c1, c2, c3, c4, c5, c6⟩ := id hp
  have hbt : (nob (kL K)).length = bt K := rfl
  have b3 := w.nv
  refine Ct.of_V mo_Canon_stillIfStoppedAt rfl (Nat.le_of_ble_eq_true rfl) rfl ?_
  have loop : ∀ (k : Nat) (i : Nat), ((kK K).length < i + k) → (i ≤ (kK K).length) → ∀ x z y : Option AV, V G Y_Canon_stillIfStoppedAt 3 0 0 4 [some (aR c), some (aI b), some (aI (sts K b i)), some (aI i), x, z, y] [] h (isR (some (aI (sts K b (kK K).length))) h) := by
    intro k
    induction k with
    | zero => intro i hk hi; exfalso; omega
    | succ k ih =>
      intro i hk hi
      intro x z y
      have g1 := sts_bd w (b := b) i
      have g2 := w.en i
      have g3 := w.rB i
      have g4 := w.rd
      refine v_iload_n k_Canon_stillIfStoppedAt_4 rfl ?_
      refine v_aload_n k_Canon_stillIfStoppedAt_5 rfl ?_
      refine v_callVr mo_Canon_voices mi_Canon_voices mv_Canon_voices lk_Canon_80 k_Canon_stillIfStoppedAt_6 c0 rfl rfl (Nat.le_of_ble_eq_true rfl) rfl (Nat.le_of_ble_eq_true rfl) (c_Canon_voices G hp) ?_
      refine v_icge 82 k_Canon_stillIfStoppedAt_9 rfl (by omega) (by omega) (fun c9 => ?_) (fun c9 => ?_)
      · refine v_iload_n k_Canon_stillIfStoppedAt_82 rfl ?_
        refine v_ireturn k_Canon_stillIfStoppedAt_83 rfl rfl ?_
        have e : i = (kK K).length := by omega
        subst e
        exact ⟨rfl, rfl⟩
      · refine v_aload_n k_Canon_stillIfStoppedAt_12 rfl ?_
        refine v_iload_n k_Canon_stillIfStoppedAt_13 rfl ?_
        refine v_callVr mo_Canon_roundBeats mi_Canon_roundBeats mv_Canon_roundBeats lk_Canon_90 k_Canon_stillIfStoppedAt_14 c0 rfl rfl (Nat.le_of_ble_eq_true rfl) rfl (Nat.le_of_ble_eq_true rfl) (c_Canon_roundBeats G hp w (by omega)) ?_
        refine v_istore k_Canon_stillIfStoppedAt_17 ⟨Nat.le_of_ble_eq_true rfl, Nat.le_of_ble_eq_true rfl⟩ ?_
        refine v_iload_n k_Canon_stillIfStoppedAt_19 rfl ?_
        refine v_aload_n k_Canon_stillIfStoppedAt_20 rfl ?_
        refine v_getf fl_Canon_27 c0 rfl k_Canon_stillIfStoppedAt_21 ?_
        refine v_iload_n k_Canon_stillIfStoppedAt_24 rfl ?_
        refine v_callVr mo_Row_get mi_Row_get mv_Row_get lk_Canon_64 k_Canon_stillIfStoppedAt_25 c3.obj rfl rfl (Nat.le_of_ble_eq_true rfl) rfl (Nat.le_of_ble_eq_true rfl) (c_Row_get G c3 (by omega)) ?_
        refine v_isub k_Canon_stillIfStoppedAt_28 ?_
        refine v_istore k_Canon_stillIfStoppedAt_29 ⟨Nat.le_of_ble_eq_true rfl, Nat.le_of_ble_eq_true rfl⟩ ?_
        refine v_iload k_Canon_stillIfStoppedAt_31 rfl ?_
        refine v_ifle 76 k_Canon_stillIfStoppedAt_33 rfl (by omega) (fun c33 => ?_) (fun c33 => ?_)
        · refine v_iinc k_Canon_stillIfStoppedAt_76 rfl (Nat.le_of_ble_eq_true rfl) ?_
          refine v_goto k_Canon_stillIfStoppedAt_79 (tgt := 4) rfl ?_
          have e := ih (i + 1) (by omega) (by omega)
          simp only [sts] at e
          first
            | (rw [if_pos (by omega)] at e; exact e _ _ _)
            | (rw [if_neg (by omega)] at e; exact e _ _ _)
          skip
        · refine v_iload k_Canon_stillIfStoppedAt_36 rfl ?_
          refine v_iflt 76 k_Canon_stillIfStoppedAt_38 rfl (by omega) (fun c38 => ?_) (fun c38 => ?_)
          · refine v_iinc k_Canon_stillIfStoppedAt_76 rfl (Nat.le_of_ble_eq_true rfl) ?_
            refine v_goto k_Canon_stillIfStoppedAt_79 (tgt := 4) rfl ?_
            have e := ih (i + 1) (by omega) (by omega)
            simp only [sts] at e
            first
              | (rw [if_pos (by omega)] at e; exact e _ _ _)
              | (rw [if_neg (by omega)] at e; exact e _ _ _)
            skip
          · refine v_iload k_Canon_stillIfStoppedAt_41 rfl ?_
            refine v_iload k_Canon_stillIfStoppedAt_43 rfl ?_
            refine v_idiv k_Canon_stillIfStoppedAt_45 (by omega) (by omega) ?_
            have hc : 0 < q_rB K i ∧ 0 ≤ b - rget (kE K) i := by omega
            rw [Int.tdiv_eq_ediv_of_nonneg hc.2]
            have d1 := Int.ediv_nonneg hc.2 (Int.le_of_lt hc.1)
            have d2 := Int.ediv_le_self (q_rB K i) hc.2
            have d3 : 0 ≤ min ((b - rget (kE K) i) / q_rB K i + 1) (kR K) * q_rB K i ∧ min ((b - rget (kE K) i) / q_rB K i + 1) (kR K) * q_rB K i ≤ 4 * 74 := mul_bd (by omega) (by omega) g3.1 g3.2
            refine v_iconst k_Canon_stillIfStoppedAt_46 ?_
            refine v_iadd k_Canon_stillIfStoppedAt_47 ?_
            refine v_aload_n k_Canon_stillIfStoppedAt_48 rfl ?_
            refine v_getf fl_Canon_39 c0 rfl k_Canon_stillIfStoppedAt_49 ?_
            refine v_mmin k_Canon_stillIfStoppedAt_52 lm_Canon_139 (by omega) (by omega) (Nat.le_of_ble_eq_true rfl) (Nat.le_of_ble_eq_true rfl) ?_
            refine v_istore k_Canon_stillIfStoppedAt_55 ⟨Nat.le_of_ble_eq_true rfl, Nat.le_of_ble_eq_true rfl⟩ ?_
            refine v_iload_n k_Canon_stillIfStoppedAt_57 rfl ?_
            refine v_aload_n k_Canon_stillIfStoppedAt_58 rfl ?_
            refine v_getf fl_Canon_27 c0 rfl k_Canon_stillIfStoppedAt_59 ?_
            refine v_iload_n k_Canon_stillIfStoppedAt_62 rfl ?_
            refine v_callVr mo_Row_get mi_Row_get mv_Row_get lk_Canon_64 k_Canon_stillIfStoppedAt_63 c3.obj rfl rfl (Nat.le_of_ble_eq_true rfl) rfl (Nat.le_of_ble_eq_true rfl) (c_Row_get G c3 (by omega)) ?_
            refine v_iload k_Canon_stillIfStoppedAt_66 rfl ?_
            refine v_iload k_Canon_stillIfStoppedAt_68 rfl ?_
            refine v_imul k_Canon_stillIfStoppedAt_70 ?_
            refine v_iadd k_Canon_stillIfStoppedAt_71 ?_
            refine v_mmax k_Canon_stillIfStoppedAt_72 lm_Canon_96 (by omega) (by omega) (Nat.le_of_ble_eq_true rfl) (Nat.le_of_ble_eq_true rfl) ?_
            refine v_istore_n k_Canon_stillIfStoppedAt_75 ⟨Nat.le_of_ble_eq_true rfl, Nat.le_of_ble_eq_true rfl⟩ ?_
            refine v_iinc k_Canon_stillIfStoppedAt_76 rfl (Nat.le_of_ble_eq_true rfl) ?_
            refine v_goto k_Canon_stillIfStoppedAt_79 (tgt := 4) rfl ?_
            have e := ih (i + 1) (by omega) (by omega)
            simp only [sts] at e
            first
              | (rw [if_pos (by omega)] at e; exact e _ _ _)
              | (rw [if_neg (by omega)] at e; exact e _ _ _)
            skip
  refine v_iconst k_Canon_stillIfStoppedAt_0 ?_
  refine v_istore_n k_Canon_stillIfStoppedAt_1 ⟨Nat.le_of_ble_eq_true rfl, Nat.le_of_ble_eq_true rfl⟩ ?_
  refine v_iconst k_Canon_stillIfStoppedAt_2 ?_
  refine v_istore_n k_Canon_stillIfStoppedAt_3 ⟨Nat.le_of_ble_eq_true rfl, Nat.le_of_ble_eq_true rfl⟩ ?_
  exact loop 8 0 (by omega) (by omega) _ _ _

set_option maxHeartbeats 4000000 in
set_option maxRecDepth 20000 in
theorem c_Canon_isUnison (G : Gx) {h : AH} {c : Nat} {K : CK} {b : Int} (hp : pCanon h c K ((so K b).map Prod.fst) ((so K b).map Prod.snd)) (w : wK K) : Ct G Y_Canon_isUnison 1 0 0 [aR c] h (isR (some (aI (if unP (so K b) then 1 else 0))) h) := by
  obtain ⟨c0, c1, c2, c3, c4, c5, c6⟩ := id hp
  have hbt : (nob (kL K)).length = bt K := rfl
  have b1 := so_len w b
  have el1 : ((so K b).map Prod.fst).length = (so K b).length := List.length_map _
  have el2 : ((so K b).map Prod.snd).length = (so K b).length := List.length_map _
  refine Ct.of_V mo_Canon_isUnison rfl (Nat.le_of_ble_eq_true rfl) rfl ?_
  have loop : ∀ (k : Nat) (i : Nat) (x : Option AV), ((so K b).length < i + k) → (i ≤ (so K b).length) → (unP ((so K b).drop i) = unP (so K b)) → V G Y_Canon_isUnison 1 0 0 2 [some (aR c), some (aI i), x] [] h (isR (some (aI (if unP (so K b) then 1 else 0))) h) := by
    intro k
    induction k with
    | zero => intro i x hk hi ht; exfalso; omega
    | succ k ih =>
      intro i x hk hi ht
      have r1 := rget_bd (so_sd w b) (by decide) (by decide) (i : Int)
      refine v_iload_n k_Canon_isUnison_2 rfl ?_
      refine v_aload_n k_Canon_isUnison_3 rfl ?_
      refine v_getf fl_Canon_36 c0 rfl k_Canon_isUnison_4 ?_
      refine v_callVr mo_Row_size mi_Row_size mv_Row_size lk_Canon_56 k_Canon_isUnison_7 c6.obj rfl rfl (Nat.le_of_ble_eq_true rfl) rfl (Nat.le_of_ble_eq_true rfl) (c_Row_size G c6) ?_
      refine v_icge 61 k_Canon_isUnison_10 rfl (by omega) (by omega) (fun c10 => ?_) (fun c10 => ?_)
      · refine v_iconst k_Canon_isUnison_61 ?_
        refine v_ireturn k_Canon_isUnison_62 rfl (by first | rfl | (split <;> rfl)) ?_
        have ei : i = (so K b).length := by omega
        rw [ei, List.drop_length] at ht
        exact ⟨by rw [← ht]; rfl, rfl⟩
      · refine v_iload_n k_Canon_isUnison_13 rfl ?_
        refine v_iconst k_Canon_isUnison_14 ?_
        refine v_iadd k_Canon_isUnison_15 ?_
        refine v_istore_n k_Canon_isUnison_16 ⟨Nat.le_of_ble_eq_true rfl, Nat.le_of_ble_eq_true rfl⟩ ?_
        have loop2 : ∀ (k2 : Nat) (j : Nat), ((so K b).length < j + k2) → (j ≤ (so K b).length) → ((unI (rget ((so K b).map Prod.snd) i) ((so K b).drop j) || unP ((so K b).drop (i + 1))) = unP (so K b)) → V G Y_Canon_isUnison 1 0 0 17 [some (aR c), some (aI i), some (aI j)] [] h (isR (some (aI (if unP (so K b) then 1 else 0))) h) := by
          intro k2
          induction k2 with
          | zero => intro j hk2 hj ht; exfalso; omega
          | succ k2 ih2 =>
            intro j hk2 hj ht
            have r2 := rget_bd (so_sd w b) (by decide) (by decide) (j : Int)
            refine v_iload_n k_Canon_isUnison_17 rfl ?_
            refine v_aload_n k_Canon_isUnison_18 rfl ?_
            refine v_getf fl_Canon_36 c0 rfl k_Canon_isUnison_19 ?_
            refine v_callVr mo_Row_size mi_Row_size mv_Row_size lk_Canon_56 k_Canon_isUnison_22 c6.obj rfl rfl (Nat.le_of_ble_eq_true rfl) rfl (Nat.le_of_ble_eq_true rfl) (c_Row_size G c6) ?_
            refine v_icge 55 k_Canon_isUnison_25 rfl (by omega) (by omega) (fun c25 => ?_) (fun c25 => ?_)
            · have ej : j = (so K b).length := by omega
              refine v_iinc k_Canon_isUnison_55 rfl (Nat.le_of_ble_eq_true rfl) ?_
              refine v_goto k_Canon_isUnison_58 (tgt := 2) rfl ?_
              refine ih (i + 1) _ (by omega) (by omega) ?_
              rw [ej, List.drop_length] at ht
              rw [← ht]
              simp only [unI]
              rfl
            · refine v_aload_n k_Canon_isUnison_28 rfl ?_
              refine v_getf fl_Canon_36 c0 rfl k_Canon_isUnison_29 ?_
              refine v_iload_n k_Canon_isUnison_32 rfl ?_
              refine v_callVr mo_Row_get mi_Row_get mv_Row_get lk_Canon_64 k_Canon_isUnison_33 c6.obj rfl rfl (Nat.le_of_ble_eq_true rfl) rfl (Nat.le_of_ble_eq_true rfl) (c_Row_get G c6 (by omega)) ?_
              refine v_aload_n k_Canon_isUnison_36 rfl ?_
              refine v_getf fl_Canon_36 c0 rfl k_Canon_isUnison_37 ?_
              refine v_iload_n k_Canon_isUnison_40 rfl ?_
              refine v_callVr mo_Row_get mi_Row_get mv_Row_get lk_Canon_64 k_Canon_isUnison_41 c6.obj rfl rfl (Nat.le_of_ble_eq_true rfl) rfl (Nat.le_of_ble_eq_true rfl) (c_Row_get G c6 (by omega)) ?_
              refine v_icne 49 k_Canon_isUnison_44 rfl (by omega) (by omega) (fun c44 => ?_) (fun c44 => ?_)
              · refine v_iinc k_Canon_isUnison_49 rfl (Nat.le_of_ble_eq_true rfl) ?_
                refine v_goto k_Canon_isUnison_52 (tgt := 17) rfl ?_
                refine ih2 (j + 1) (by omega) (by omega) ?_
                rw [drop_at (show j < (so K b).length by omega)] at ht
                simp only [unI] at ht
                rw [rgM Prod.snd (L := so K b) (i := j) (by omega)] at c44
                rw [decide_eq_false c44, Bool.false_or] at ht
                exact ht
              · refine v_iconst k_Canon_isUnison_47 ?_
                refine v_ireturn k_Canon_isUnison_48 rfl (by first | rfl | (split <;> rfl)) ?_
                refine ⟨?_, rfl⟩
                rw [drop_at (show j < (so K b).length by omega)] at ht
                simp only [unI] at ht
                rw [rgM Prod.snd (L := so K b) (i := j) (by omega)] at c44
                rw [decide_eq_true (Classical.not_not.mp c44), Bool.true_or, Bool.true_or] at ht
                rw [← ht]
                rfl
        refine loop2 8 (i + 1) (by omega) (by omega) ?_
        rw [drop_at (show i < (so K b).length by omega)] at ht
        rw [← ht, rgM Prod.snd (L := so K b) (i := i) (by omega)]
        rfl
  refine v_iconst k_Canon_isUnison_0 ?_
  refine v_istore_n k_Canon_isUnison_1 ⟨Nat.le_of_ble_eq_true rfl, Nat.le_of_ble_eq_true rfl⟩ ?_
  exact loop 8 0 _ (by omega) (by omega) (by rw [List.drop_zero])

set_option maxHeartbeats 4000000 in
set_option maxRecDepth 20000 in
theorem c_Canon_unisonBeats (G : Gx) {h : AH} {c : Nat} {K : CK} {sg sd : List Int} (hp : pCanon h c K sg sd) (w : wK K) : Ct G Y_Canon_unisonBeats 6 0 0 [aR c] h (fun v h' => v = some (aI (unS K (q_endK K).toNat)) ∧ ∃ sg sd, pCanon h' c K sg sd ∧ Fr (c + 14) (c + 18) h h') := by
  obtain ⟨c0, c1, c2, c3, c4, c5, c6⟩ := id hp
  have hbt : (nob (kL K)).length = bt K := rfl
  have b1 := w.endK
  refine Ct.of_V mo_Canon_unisonBeats rfl (Nat.le_of_ble_eq_true rfl) rfl ?_
  have loop : ∀ (k : Nat) (i : Nat) (h1 : AH), ((q_endK K).toNat < i + k) → ((i : Int) ≤ q_endK K) → ∀ sg sd, pCanon h1 c K sg sd → Fr (c + 14) (c + 18) h h1 → V G Y_Canon_unisonBeats 6 0 0 9 [some (aR c), some (aI (unS K i)), some (aI (q_endK K)), some (aI i)] [] h1 (fun v h' => v = some (aI (unS K (q_endK K).toNat)) ∧ ∃ sg sd, pCanon h' c K sg sd ∧ Fr (c + 14) (c + 18) h h') := by
    intro k
    induction k with
    | zero => intro i h1 hk hi; exfalso; omega
    | succ k ih =>
      intro i h1 hk hi sg1 sd1 hp1 f1
      obtain ⟨c0, c1, c2, c3, c4, c5, c6⟩ := id hp1
      have hbt : (nob (kL K)).length = bt K := rfl
      refine v_iload_n k_Canon_unisonBeats_9 rfl ?_
      refine v_iload_n k_Canon_unisonBeats_10 rfl ?_
      refine v_icge 35 k_Canon_unisonBeats_11 rfl (by omega) (by omega) (fun c11 => ?_) (fun c11 => ?_)
      · refine v_iload_n k_Canon_unisonBeats_35 rfl ?_
        refine v_ireturn k_Canon_unisonBeats_36 rfl rfl ?_
        have e : i = (q_endK K).toNat := by omega
        subst e
        exact ⟨rfl, _, _, hp1, f1⟩
      · refine v_aload_n k_Canon_unisonBeats_14 rfl ?_
        refine v_iload_n k_Canon_unisonBeats_15 rfl ?_
        refine v_callV mo_Canon_listen mi_Canon_listen mv_Canon_listen lk_Canon_127 k_Canon_unisonBeats_16 c0 rfl rfl (Nat.le_of_ble_eq_true rfl) rfl (Nat.le_of_ble_eq_true rfl) (c_Canon_listen G hp1 w (by omega)) (fun v16 h16 q16 => ?_)
        obtain ⟨rfl, hp2, f3⟩ := q16
        have f2 := f1.tr f3 (by omega) (by omega)
        obtain ⟨c0, c1, c2, c3, c4, c5, c6⟩ := id hp2
        refine v_aload_n k_Canon_unisonBeats_19 rfl ?_
        refine v_callVr mo_Canon_isUnison mi_Canon_isUnison mv_Canon_isUnison lk_Canon_142 k_Canon_unisonBeats_20 c0 rfl rfl (Nat.le_of_ble_eq_true rfl) rfl (Nat.le_of_ble_eq_true rfl) (c_Canon_isUnison G hp2 w) ?_
        refine v_ifeq 29 k_Canon_unisonBeats_23 rfl (by split <;> decide) (fun c23 => ?_) (fun c23 => ?_)
        · refine v_iinc k_Canon_unisonBeats_29 rfl (Nat.le_of_ble_eq_true rfl) ?_
          refine v_goto k_Canon_unisonBeats_32 (tgt := 9) rfl ?_
          have e := ih (i + 1) h16 (by omega) (by omega) _ _ hp2 f2
          simp only [unS] at e
          by_cases hq : unP (so K i) = true
          · rw [if_pos hq] at e c23; first | exact e | (exact absurd c23 (by decide))
          · rw [if_neg hq] at e c23; first | (rw [Int.add_zero] at e; exact e) | (exact absurd rfl c23)
        · refine v_iinc k_Canon_unisonBeats_26 rfl (Nat.le_of_ble_eq_true rfl) ?_
          refine v_iinc k_Canon_unisonBeats_29 rfl (Nat.le_of_ble_eq_true rfl) ?_
          refine v_goto k_Canon_unisonBeats_32 (tgt := 9) rfl ?_
          have e := ih (i + 1) h16 (by omega) (by omega) _ _ hp2 f2
          simp only [unS] at e
          by_cases hq : unP (so K i) = true
          · rw [if_pos hq] at e c23; first | exact e | (exact absurd c23 (by decide))
          · rw [if_neg hq] at e c23; first | (rw [Int.add_zero] at e; exact e) | (exact absurd rfl c23)
  refine v_iconst k_Canon_unisonBeats_0 ?_
  refine v_istore_n k_Canon_unisonBeats_1 ⟨Nat.le_of_ble_eq_true rfl, Nat.le_of_ble_eq_true rfl⟩ ?_
  refine v_aload_n k_Canon_unisonBeats_2 rfl ?_
  refine v_callVr mo_Canon_end mi_Canon_end mv_Canon_end lk_Canon_133 k_Canon_unisonBeats_3 c0 rfl rfl (Nat.le_of_ble_eq_true rfl) rfl (Nat.le_of_ble_eq_true rfl) (c_Canon_end G hp w) ?_
  refine v_istore_n k_Canon_unisonBeats_6 ⟨Nat.le_of_ble_eq_true rfl, Nat.le_of_ble_eq_true rfl⟩ ?_
  refine v_iconst k_Canon_unisonBeats_7 ?_
  refine v_istore_n k_Canon_unisonBeats_8 ⟨Nat.le_of_ble_eq_true rfl, Nat.le_of_ble_eq_true rfl⟩ ?_
  exact loop ((q_endK K).toNat + 1) 0 h (by omega) (by omega) _ _ hp Fr.rf

theorem rg0 {xs : List Int} {i : Nat} (hi : i < xs.length) : rget xs i = xs[i] := by
  rw [rget, if_pos (by omega), Int.toNat_natCast, List.getD_eq_getElem?_getD, List.getElem?_eq_getElem hi]
  rfl
set_option maxHeartbeats 4000000 in
set_option maxRecDepth 20000 in
theorem c_Canon_firstNotHeard (G : Gx) {h : AH} {c : Nat} {K : CK} {sg sd : List Int} (hp : pCanon h c K sg sd) (w : wK K) {v b : Int} (hv : InR v) (hb : 0 ≤ b ∧ b ≤ 400) {p : Nat} {xs : List Int} (hq : pRow h p 12 xs) (hx : ∀ x ∈ xs, 0 ≤ x ∧ x ≤ 60) : Ct G Y_Canon_firstNotHeard 4 0 0 [aR c, aI v, aI b, aR p] h (isR (some (aI (fnH K v b xs 0))) h) := by
  obtain ⟨c0, c1, c2, c3, c4, c5, c6⟩ := id hp
  have hbt : (nob (kL K)).length = bt K := rfl
  have b1 := hq.le
  refine Ct.of_V mo_Canon_firstNotHeard rfl (Nat.le_of_ble_eq_true rfl) rfl ?_
  have loop : ∀ (k : Nat) (i : Nat), (xs.length < i + k) → (i ≤ xs.length) → ∀ (x z : Option AV), (fnH K v b (xs.drop i) i = fnH K v b xs 0) → V G Y_Canon_firstNotHeard 4 0 0 10 [some (aR c), some (aI v), some (aI b), some (aR p), some (aI i), x, z] [] h (isR (some (aI (fnH K v b xs 0))) h) := by
    intro k
    induction k with
    | zero => intro i hk hi x z ht; exfalso; omega
    | succ k ih =>
      intro i hk hi x z ht
      have s1 := sO_bd w v (b + i)
      have s2 := rget_bd hx (by decide) (by decide) (i : Int)
      refine v_iload k_Canon_firstNotHeard_10 rfl ?_
      refine v_aload_n k_Canon_firstNotHeard_12 rfl ?_
      refine v_callVr mo_Row_size mi_Row_size mv_Row_size lk_Canon_56 k_Canon_firstNotHeard_13 hq.obj rfl rfl (Nat.le_of_ble_eq_true rfl) rfl (Nat.le_of_ble_eq_true rfl) (c_Row_size G hq) ?_
      refine v_icge 70 k_Canon_firstNotHeard_16 rfl (by omega) (by omega) (fun c16 => ?_) (fun c16 => ?_)
      · refine v_bipush k_Canon_firstNotHeard_70 (by decide) ?_
        refine v_ireturn k_Canon_firstNotHeard_72 rfl rfl ?_
        refine ⟨?_, rfl⟩
        have ei : i = xs.length := by omega
        rw [← ht, ei, List.drop_length]
        rfl
      · refine v_aload_n k_Canon_firstNotHeard_19 rfl ?_
        refine v_iload_n k_Canon_firstNotHeard_20 rfl ?_
        refine v_iload_n k_Canon_firstNotHeard_21 rfl ?_
        refine v_iload k_Canon_firstNotHeard_22 rfl ?_
        refine v_iadd k_Canon_firstNotHeard_24 ?_
        refine v_callVr mo_Canon_soundOf mi_Canon_soundOf mv_Canon_soundOf lk_Canon_120 k_Canon_firstNotHeard_25 c0 rfl rfl (Nat.le_of_ble_eq_true rfl) rfl (Nat.le_of_ble_eq_true rfl) (c_Canon_soundOf G hp w (by omega) (by omega)) ?_
        refine v_istore k_Canon_firstNotHeard_28 ⟨Nat.le_of_ble_eq_true rfl, Nat.le_of_ble_eq_true rfl⟩ ?_
        refine v_iload k_Canon_firstNotHeard_30 rfl ?_
        refine v_sipush k_Canon_firstNotHeard_32 (by decide) ?_
        refine v_icne 43 k_Canon_firstNotHeard_35 rfl (by omega) (by omega) (fun c35 => ?_) (fun c35 => ?_)
        · refine v_iload k_Canon_firstNotHeard_43 rfl ?_
          refine v_bipush k_Canon_firstNotHeard_45 (by decide) ?_
          refine v_iadd k_Canon_firstNotHeard_47 ?_
          refine v_istore k_Canon_firstNotHeard_48 ⟨Nat.le_of_ble_eq_true rfl, Nat.le_of_ble_eq_true rfl⟩ ?_
          refine v_aload_n k_Canon_firstNotHeard_50 rfl ?_
          refine v_iload k_Canon_firstNotHeard_51 rfl ?_
          refine v_callVr mo_Row_get mi_Row_get mv_Row_get lk_Canon_64 k_Canon_firstNotHeard_53 hq.obj rfl rfl (Nat.le_of_ble_eq_true rfl) rfl (Nat.le_of_ble_eq_true rfl) (c_Row_get G hq (by omega)) ?_
          refine v_iload k_Canon_firstNotHeard_56 rfl ?_
          refine v_iceq 64 k_Canon_firstNotHeard_58 rfl (by omega) (by omega) (fun c58 => ?_) (fun c58 => ?_)
          · refine v_iinc k_Canon_firstNotHeard_64 rfl (Nat.le_of_ble_eq_true rfl) ?_
            refine v_goto k_Canon_firstNotHeard_67 (tgt := 10) rfl ?_
            refine ih (i + 1) (by omega) (by omega) _ _ ?_
            rw [drop_at (show i < xs.length by omega)] at ht
            simp only [fnH] at ht
            rw [rg0 (show i < xs.length by omega)] at c58
            first
              | (rw [if_pos (by first | (rw [if_pos (by omega)]; omega) | (rw [if_neg (by omega)]; omega))] at ht; exact ht)
          · refine v_iload k_Canon_firstNotHeard_61 rfl ?_
            refine v_ireturn k_Canon_firstNotHeard_63 rfl rfl ?_
            refine ⟨?_, rfl⟩
            rw [drop_at (show i < xs.length by omega)] at ht
            simp only [fnH] at ht
            rw [rg0 (show i < xs.length by omega)] at c58
            rw [if_neg (by first | (rw [if_pos (by omega)]; omega) | (rw [if_neg (by omega)]; omega))] at ht
            rw [ht]
          skip
        · refine v_bipush k_Canon_firstNotHeard_38 (by decide) ?_
          refine v_goto k_Canon_firstNotHeard_40 (tgt := 48) rfl ?_
          refine v_istore k_Canon_firstNotHeard_48 ⟨Nat.le_of_ble_eq_true rfl, Nat.le_of_ble_eq_true rfl⟩ ?_
          refine v_aload_n k_Canon_firstNotHeard_50 rfl ?_
          refine v_iload k_Canon_firstNotHeard_51 rfl ?_
          refine v_callVr mo_Row_get mi_Row_get mv_Row_get lk_Canon_64 k_Canon_firstNotHeard_53 hq.obj rfl rfl (Nat.le_of_ble_eq_true rfl) rfl (Nat.le_of_ble_eq_true rfl) (c_Row_get G hq (by omega)) ?_
          refine v_iload k_Canon_firstNotHeard_56 rfl ?_
          refine v_iceq 64 k_Canon_firstNotHeard_58 rfl (by omega) (by omega) (fun c58 => ?_) (fun c58 => ?_)
          · refine v_iinc k_Canon_firstNotHeard_64 rfl (Nat.le_of_ble_eq_true rfl) ?_
            refine v_goto k_Canon_firstNotHeard_67 (tgt := 10) rfl ?_
            refine ih (i + 1) (by omega) (by omega) _ _ ?_
            rw [drop_at (show i < xs.length by omega)] at ht
            simp only [fnH] at ht
            rw [rg0 (show i < xs.length by omega)] at c58
            first
              | (rw [if_pos (by first | (rw [if_pos (by omega)]; omega) | (rw [if_neg (by omega)]; omega))] at ht; exact ht)
          · refine v_iload k_Canon_firstNotHeard_61 rfl ?_
            refine v_ireturn k_Canon_firstNotHeard_63 rfl rfl ?_
            refine ⟨?_, rfl⟩
            rw [drop_at (show i < xs.length by omega)] at ht
            simp only [fnH] at ht
            rw [rg0 (show i < xs.length by omega)] at c58
            rw [if_neg (by first | (rw [if_pos (by omega)]; omega) | (rw [if_neg (by omega)]; omega))] at ht
            rw [ht]
          skip
  refine v_aload_n k_Canon_firstNotHeard_0 rfl ?_
  refine v_ifnonnull 7 k_Canon_firstNotHeard_1 rfl ?_
  refine v_iconst k_Canon_firstNotHeard_7 ?_
  refine v_istore k_Canon_firstNotHeard_8 ⟨Nat.le_of_ble_eq_true rfl, Nat.le_of_ble_eq_true rfl⟩ ?_
  exact loop (xs.length + 1) 0 (by omega) (by omega) _ _ (by rw [List.drop_zero])
end
